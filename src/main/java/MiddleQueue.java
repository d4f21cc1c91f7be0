/** A queue that is joined at its middle, minute by minute; ../shared/DOC.md says what each call answers. */
public final class MiddleQueue {
    public static final int NONE = -1, BAD = -2, NOT = -3, FULL = -4;

    private static final int MINUTES = 24;
    private static final int MOST_PEOPLE = 12;
    private static final int MOST_EVENTS = 8;
    private static final int MOST_SEEN = 8;
    private static final int MOST_SPARED = 2;
    private static final int SHEETS = 4;
    private static final int FORMS = 3;
    private static final int MOST_ITEMS = 60;

    private static final int PEOPLE_BYTES = 47;
    private static final int WINDOW_BYTES = 24;
    private static final int PERSON_BYTES = 4;

    private static final int PLAIN = 0;
    private static final int WIFE = 1;
    private static final int MANNERLY = 2;
    private static final int SORTS = 3;
    private static final int MOST_PARCEL = 9;

    private static final int SHUT = 0;
    private static final int FRONT_OPEN = 1;
    private static final int BACK_OPEN = 2;
    private static final int WAYS_OPEN = 4;

    private static final int TO_FRONT = 1;
    private static final int TO_BACK = 2;
    private static final int KINDS = 3;
    private static final int ALL_EVENTS = -1;

    private static final int NOT_YET = 0;
    private static final int STANDS = 1;
    private static final int SERVED = 2;
    private static final int WENT_HOME = 3;

    private static final int NOBODY = 12;
    private static final int SIXTEENTHS = 16;

    private static final int LEAST_INT = 1 << 31;
    private static final long LEAST_LONG = 1L << 63;

    private static final int LOST = -1;
    private static final int BYTES = 0;
    private static final int SHORTS = 1;
    private static final int FINDING_BASE = -10;
    private static final int NULL_FOUND = 1;
    private static final int INDEX_FOUND = 2;
    private static final int CAST_FOUND = 3;
    private static final int STORE_FOUND = 4;
    private static final int SIZE_FOUND = 5;

    private final Text peopleText = new Text(true, PEOPLE_BYTES);
    private final Text windowsText = new Text(false, WINDOW_BYTES);
    private final Plan told = new Plan();
    private final Course course = new Course();
    // Questions of the form "what if" are tried on these two, so that what was told stays as it is.
    private final Plan trial = new Plan();
    private final Course tried = new Course();
    private final Sightings sightings = new Sightings();
    private final Sheet[] sheets = new Sheet[SHEETS];
    private final long[] standings = new long[MOST_PARCEL * MINUTES];
    // Who is served by each choice of events; chance() would else run the day 256 times at each call.
    private final int[] servedBy = new int[1 << MOST_EVENTS];
    private boolean servedKnown;
    private int latestFinding;

    public MiddleQueue() {
        for (int s = 0; s < sheets.length; s++) {
            sheets[s] = new Sheet();
        }
        settle();
    }

    // ---- people, windows, events

    public int type(int text, int b) {
        Text row = textOf(text);
        if (row == null || b < 0 || b > 255) {
            return BAD;
        }
        if (!row.append(b)) {
            return FULL;
        }
        settle();
        return row.size();
    }

    public int wipe(int text) {
        Text row = textOf(text);
        if (row == null) {
            return BAD;
        }
        int had = row.size();
        row.clear();
        settle();
        return had;
    }

    public int undo(int text) {
        Text row = textOf(text);
        if (row == null) {
            return BAD;
        }
        if (!row.dropLast()) {
            return NOT;
        }
        settle();
        return row.size();
    }

    public int fault(int text) {
        Text row = textOf(text);
        return row == null ? BAD : row.firstFault();
    }

    public int person(int person, int what) {
        if (!isPerson(person) || !isFrom0To(what, 2)) {
            return BAD;
        }
        if (what == 0) {
            return told.comingOf(person);
        }
        return what == 1 ? told.sortOf(person) : told.parcelOf(person);
    }

    public int window(int minute) {
        return isMinute(minute) ? told.openIn(minute) : BAD;
    }

    public int event(int kind, int minute, int person) {
        int answer = takeEvent(kind, minute, person);
        if (answer >= 0) {
            happen();
        }
        return answer;
    }

    public int back() {
        if (!told.dropEvent()) {
            return NOT;
        }
        happen();
        return told.events();
    }

    public int read(int s) {
        Sheet from = sheetOf(s);
        if (from == null) {
            return BAD;
        }
        if (from.isLost()) {
            return found(NULL_FOUND);
        }
        int taken = 0;
        for (int i = 0; i + 2 < from.size(); i += 3) {
            if (takeEvent(from.item(i), from.item(i + 1), from.item(i + 2)) < 0) {
                break;
            }
            taken++;
        }
        happen();
        return taken;
    }

    // ---- minutes

    public int stands(int minute, int place) {
        return isMinute(minute) && isFrom0To(place, MOST_PEOPLE - 1) ? course.whoAt(minute, place) : BAD;
    }

    public int many(int minute) {
        return isMinute(minute) ? course.howMany(minute) : BAD;
    }

    public int at(int minute, int person, int what) {
        if (!isMinute(minute) || !isPerson(person) || !isFrom0To(what, 2)) {
            return BAD;
        }
        if (what == 1) {
            return course.placeOf(minute, person);
        }
        return what == 2 ? course.leftOf(minute, person) : stateOf(minute, person);
    }

    public int apart(int minute, int one, int other) {
        if (!isMinute(minute) || !isPerson(one) || !isPerson(other) || one == other) {
            return BAD;
        }
        int here = course.placeOf(minute, one);
        int there = course.placeOf(minute, other);
        return here == NONE || there == NONE ? NONE : Math.abs(here - there) - 1;
    }

    public int done(int person, int what) {
        if (!isPerson(person) || !isFrom0To(what, 2)) {
            return BAD;
        }
        if (what == 0) {
            return course.servedIn(person);
        }
        return what == 1 ? course.stood(person) : course.moves(person);
    }

    public int alfred(int what) {
        if (!isFrom0To(what, 1)) {
            return BAD;
        }
        int who = NONE;
        int most = NONE;
        for (int p = 0; p < told.people(); p++) {
            int first = course.minutesFirst(p);
            if (first > 0 && first > most) {
                who = p;
                most = first;
            }
        }
        return what == 0 ? who : most;
    }

    public int kettle() {
        int bits = 0;
        for (int p = 0; p < told.people(); p++) {
            if (course.placeOf(MINUTES - 1, p) != NONE) {
                bits |= 1 << p;
            }
        }
        return bits;
    }

    // ---- plans

    public int come(int person, int what) {
        if (!isPerson(person) || !isFrom0To(what, 1)) {
            return BAD;
        }
        int best = NONE;
        int least = NONE;
        trial.take(told);
        for (int minute = 0; minute < MINUTES; minute++) {
            trial.setComing(person, minute);
            tried.run(trial, ALL_EVENTS);
            if (tried.isServed(person)) {
                int stood = tried.stood(person);
                if (best == NONE || stood < least) {
                    best = minute;
                    least = stood;
                }
            }
        }
        return what == 0 ? best : least;
    }

    public int open(int minute, int what) {
        if (!isMinute(minute) || !isFrom0To(what, 1)) {
            return BAD;
        }
        int best = NONE;
        int most = NONE;
        trial.take(told);
        for (int way = 0; way < WAYS_OPEN; way++) {
            trial.setOpen(minute, way);
            tried.run(trial, ALL_EVENTS);
            int served = tried.howManyServed();
            if (served > most) {
                best = way;
                most = served;
            }
        }
        return what == 0 ? best : most;
    }

    public int let(int minute, int what) {
        if (!isMinute(minute) || !isFrom0To(what, 1)) {
            return BAD;
        }
        int best = NONE;
        int most = NONE;
        trial.take(told);
        for (int p = 0; p < told.people(); p++) {
            trial.addEvent(TO_FRONT, minute, p);
            tried.run(trial, ALL_EVENTS);
            trial.dropEvent();
            int served = tried.howManyServed();
            if (served > most) {
                best = p;
                most = served;
            }
        }
        return what == 0 ? best : most;
    }

    public int spare(int i) {
        if (i != NONE && !isFrom0To(i, MOST_SPARED - 1)) {
            return BAD;
        }
        int spared = sparedEvents();
        if (spared == NONE) {
            return NONE;
        }
        return i == NONE ? Integer.bitCount(spared) : nthBit(spared, i);
    }

    // ---- seen, chance, decades

    public int seen(int minute, int place, int person) {
        if (!isMinute(minute) || !isFrom0To(place, MOST_PEOPLE - 1) || !isFrom0To(person, NOBODY)) {
            return BAD;
        }
        return sightings.add(minute, place, person) ? sightings.size() : FULL;
    }

    public int forget() {
        int had = sightings.size();
        sightings.clear();
        return had;
    }

    public int never() {
        int bits = 0;
        for (int e = 0; e < told.events(); e++) {
            tried.run(told, ALL_EVENTS & ~(1 << e));
            if (sightings.fit(tried)) {
                bits |= 1 << e;
            }
        }
        return bits;
    }

    public int was(int person, int what) {
        if (!isPerson(person) || !isFrom0To(what, 1)) {
            return BAD;
        }
        return what == 0 ? fittingSorts(person) : fittingParcels(person);
    }

    public int ask(int person) {
        if (!isPerson(person)) {
            return BAD;
        }
        int rows = Integer.bitCount(fittingParcels(person));
        int best = 0;
        int least = rows;
        for (int minute = 0; minute < MINUTES; minute++) {
            int alike = mostAlike(minute, rows);
            if (alike < least) {
                best = minute;
                least = alike;
            }
        }
        return best;
    }

    public long chance(int c, int person, int what) {
        if (!isFrom0To(c, SIXTEENTHS) || !isPerson(person) || !isFrom0To(what, 1)) {
            return LEAST_LONG - BAD;
        }
        learnServed();
        int events = told.events();
        long above = 0;
        for (int choice = 0; choice < 1 << events && choice < servedBy.length; choice++) {
            if ((servedBy[choice] >> person & 1) == 1) {
                above += weight(choice, events, c);
            }
        }
        return inLowestTerms(above, 4 * events, what);
    }

    public int decades(int seed, int n, int what) {
        if (!isFrom0To(n, MOST_EVENTS) || !isFrom0To(what, 1)) {
            return BAD;
        }
        trial.take(told);
        trial.dropEvents();
        int people = told.people();
        int drawn = seed;
        for (int e = 0; e < n && people > 0; e++) {
            drawn = nextSeed(drawn);
            int kind = lot(drawn, KINDS);
            drawn = nextSeed(drawn);
            int minute = lot(drawn, MINUTES);
            drawn = nextSeed(drawn);
            trial.addEvent(kind, minute, lot(drawn, people));
        }
        tried.run(trial, ALL_EVENTS);
        return what == 0 ? tried.howManyServed() : tried.howMany(MINUTES - 1);
    }

    // ---- sheets

    public int sheet(int s, int form, int n) {
        Sheet made = sheetOf(s);
        if (made == null || !isForm(form) || n > MOST_ITEMS) {
            return BAD;
        }
        if (n < 0) {
            return found(SIZE_FOUND);
        }
        made.renew(form, n);
        return n;
    }

    public int lose(int s) {
        Sheet row = sheetOf(s);
        if (row == null) {
            return BAD;
        }
        if (row.isLost()) {
            return found(NULL_FOUND);
        }
        int had = row.size();
        row.beLost();
        return had;
    }

    public int put(int s, int form, int i, int v) {
        Sheet row = sheetOf(s);
        if (row == null || !isForm(form)) {
            return BAD;
        }
        int finding = row.findingAt(form, i);
        if (finding != 0) {
            return found(finding);
        }
        row.setItem(i, v);
        return 1;
    }

    public int get(int s, int form, int i) {
        Sheet row = sheetOf(s);
        if (row == null || !isForm(form)) {
            return LEAST_INT;
        }
        int finding = row.findingAt(form, i);
        if (finding != 0) {
            found(finding);
            return LEAST_INT;
        }
        return row.item(i);
    }

    public int copy(int s, int i, int t, int j, int n) {
        Sheet from = sheetOf(s);
        Sheet to = sheetOf(t);
        if (from == null || to == null) {
            return BAD;
        }
        if (from.isLost() || to.isLost()) {
            return found(NULL_FOUND);
        }
        if (from.form() != to.form()) {
            return found(STORE_FOUND);
        }
        if (!from.hasItems(i, n) || !to.hasItems(j, n)) {
            return found(INDEX_FOUND);
        }
        to.takeItems(j, from, i, n);
        return 1;
    }

    public int write(int minute, int s) {
        Sheet to = sheetOf(s);
        if (!isMinute(minute) || to == null) {
            return BAD;
        }
        if (to.isLost()) {
            return found(NULL_FOUND);
        }
        int items = Math.min(to.size(), MOST_PEOPLE);
        for (int place = 0; place < items; place++) {
            to.setItem(place, course.whoAt(minute, place));
        }
        return items;
    }

    public int count(int what) {
        switch (what) {
            case 0: return told.people();
            case 1: return windowsText.whole();
            case 2: return peopleText.size();
            case 3: return windowsText.size();
            case 4: return told.events();
            case 5: return course.howManyServed();
            case 6: return course.howMany(MINUTES - 1);
            case 7: return sightings.size();
            case 8: return latestFinding;
            default: return BAD;
        }
    }

    public long digest() {
        long h = 17;
        for (int what = 0; what <= 7; what++) {
            h = mixed(h, count(what));
        }
        h = mixed(h, fault(0));
        h = mixed(h, fault(1));
        for (int minute = 0; minute < MINUTES; minute++) {
            h = mixed(h, window(minute));
            h = mixed(h, many(minute));
            h = mixed(h, stands(minute, 0));
            h = mixed(h, stands(minute, 4));
        }
        for (int p = 0; p < told.people(); p++) {
            h = mixedWithDay(h, p);
            h = mixedWithGuesses(h, p);
        }
        h = mixed(h, alfred(0));
        h = mixed(h, alfred(1));
        h = mixed(h, kettle());
        h = mixed(h, open(8, 0));
        h = mixed(h, open(8, 1));
        h = mixed(h, let(8, 0));
        h = mixed(h, let(8, 1));
        h = mixed(h, spare(NONE));
        h = mixed(h, spare(0));
        h = mixed(h, never());
        h = mixed(h, decades(7, 6, 0));
        return mixed(h, decades(7, 6, 1));
    }

    // ---- what the calls share

    private static boolean isFrom0To(int number, int most) {
        return number >= 0 && number <= most;
    }

    private static boolean isMinute(int minute) {
        return isFrom0To(minute, MINUTES - 1);
    }

    private static boolean isForm(int form) {
        return isFrom0To(form, FORMS - 1);
    }

    private boolean isPerson(int person) {
        return isFrom0To(person, told.people() - 1);
    }

    private Text textOf(int text) {
        if (text == 0) {
            return peopleText;
        }
        return text == 1 ? windowsText : null;
    }

    private Sheet sheetOf(int s) {
        return s >= 0 && s < sheets.length ? sheets[s] : null;
    }

    private int found(int finding) {
        latestFinding = finding;
        return FINDING_BASE - finding;
    }

    private void settle() {
        told.readPeople(peopleText);
        told.readWindows(windowsText);
        happen();
    }

    private void happen() {
        course.run(told, ALL_EVENTS);
        servedKnown = false;
    }

    // Leaves the course as it was, so that read() runs the day once for all that it takes.
    private int takeEvent(int kind, int minute, int person) {
        if (!isFrom0To(kind, KINDS - 1) || !isMinute(minute) || !isFrom0To(person, MOST_PEOPLE - 1)) {
            return BAD;
        }
        // A plan has room for one event more than may be told: the one that let() tries.
        if (told.events() >= MOST_EVENTS) {
            return FULL;
        }
        told.addEvent(kind, minute, person);
        return told.events();
    }

    private int stateOf(int minute, int person) {
        if (minute < told.comingOf(person)) {
            return NOT_YET;
        }
        if (course.leftOf(minute, person) == 0) {
            return SERVED;
        }
        return course.placeOf(minute, person) == NONE ? WENT_HOME : STANDS;
    }

    // ---- what had better not be, what fits what was seen

    private int sparedEvents() {
        if (endsEmptyWithout(0)) {
            return 0;
        }
        int events = told.events();
        for (int e = 0; e < events; e++) {
            if (endsEmptyWithout(1 << e)) {
                return 1 << e;
            }
        }
        for (int e = 0; e < events; e++) {
            for (int f = e + 1; f < events; f++) {
                if (endsEmptyWithout(1 << e | 1 << f)) {
                    return 1 << e | 1 << f;
                }
            }
        }
        return NONE;
    }

    private boolean endsEmptyWithout(int events) {
        tried.run(told, ALL_EVENTS & ~events);
        return tried.howMany(MINUTES - 1) == 0;
    }

    private static int nthBit(int bits, int n) {
        int ahead = 0;
        for (int bit = 0; bit < MOST_EVENTS; bit++) {
            if ((bits >> bit & 1) == 1) {
                if (ahead == n) {
                    return bit;
                }
                ahead++;
            }
        }
        return NONE;
    }

    private int fittingSorts(int person) {
        int bits = 0;
        trial.take(told);
        for (int sort = 0; sort < SORTS; sort++) {
            trial.setSort(person, sort);
            tried.run(trial, ALL_EVENTS);
            if (sightings.fit(tried)) {
                bits |= 1 << sort;
            }
        }
        return bits;
    }

    // Keeps, one row behind the other, how all stand by each parcel that fits: ask() compares them.
    private int fittingParcels(int person) {
        int bits = 0;
        int rows = 0;
        trial.take(told);
        for (int parcel = 1; parcel <= MOST_PARCEL; parcel++) {
            trial.setParcel(person, parcel);
            tried.run(trial, ALL_EVENTS);
            if (sightings.fit(tried)) {
                bits |= 1 << parcel;
                keepStanding(rows);
                rows++;
            }
        }
        return bits;
    }

    private void keepStanding(int row) {
        for (int minute = 0; minute < MINUTES; minute++) {
            int i = row * MINUTES + minute;
            if (i >= 0 && i < standings.length) {
                standings[i] = tried.queueBehind(minute);
            }
        }
    }

    private long standing(int row, int minute) {
        int i = row * MINUTES + minute;
        return i >= 0 && i < standings.length ? standings[i] : 0;
    }

    private int mostAlike(int minute, int rows) {
        int most = 0;
        for (int one = 0; one < rows; one++) {
            int alike = 0;
            for (int other = 0; other < rows; other++) {
                if (standing(one, minute) == standing(other, minute)) {
                    alike++;
                }
            }
            most = Math.max(most, alike);
        }
        return most;
    }

    // ---- chances and lots

    private void learnServed() {
        if (servedKnown) {
            return;
        }
        int choices = 1 << told.events();
        for (int choice = 0; choice < choices && choice < servedBy.length; choice++) {
            tried.run(told, choice);
            servedBy[choice] = tried.servedBits();
        }
        servedKnown = true;
    }

    private static long weight(int choice, int events, int c) {
        long product = 1;
        for (int e = 0; e < events; e++) {
            product *= (choice >> e & 1) == 1 ? c : SIXTEENTHS - c;
        }
        return product;
    }

    // What is below is a power of two, so halving is all that can be done; nothing comes to 0 by 1.
    private static long inLowestTerms(long above, int belowTwos, int what) {
        long top = above;
        int twos = belowTwos;
        for (int halved = 0; halved < belowTwos && (top & 1) == 0; halved++) {
            top /= 2;
            twos--;
        }
        return what == 0 ? top : 1L << twos;
    }

    private static int nextSeed(int seed) {
        return 1103515245 * seed + 12345;
    }

    private static int lot(int seed, int m) {
        return m > 0 ? (seed >>> 16) % m : 0;
    }

    // ---- the digest's parts

    private static long mixed(long h, long value) {
        return 31 * h + value;
    }

    private long mixedWithDay(long h, int p) {
        long mix = h;
        for (int what = 0; what <= 2; what++) {
            mix = mixed(mix, person(p, what));
        }
        mix = mixedWithMinute(mix, 0, p);
        mix = mixedWithMinute(mix, 6, p);
        mix = mixedWithMinute(mix, 13, p);
        mix = mixedWithMinute(mix, 23, p);
        for (int what = 0; what <= 2; what++) {
            mix = mixed(mix, done(p, what));
        }
        return mix;
    }

    private long mixedWithMinute(long h, int minute, int p) {
        long mix = h;
        for (int what = 0; what <= 2; what++) {
            mix = mixed(mix, at(minute, p, what));
        }
        return mix;
    }

    private long mixedWithGuesses(long h, int p) {
        long mix = mixed(h, come(p, 0));
        mix = mixed(mix, come(p, 1));
        mix = mixed(mix, was(p, 0));
        mix = mixed(mix, was(p, 1));
        mix = mixed(mix, ask(p));
        mix = mixed(mix, chance(5, p, 0));
        mix = mixed(mix, chance(5, p, 1));
        return mixed(mix, p == 0 ? 0 : apart(9, 0, p));
    }

    /** One of the two texts: bytes as they were typed, and how far they make sense. */
    private static final class Text {
        private final boolean ofPeople;
        private final int[] bytes;
        private int size;

        Text(boolean ofPeople, int most) {
            this.ofPeople = ofPeople;
            this.bytes = new int[Math.max(0, most)];
        }

        int size() {
            return size;
        }

        int byteAt(int i) {
            return i >= 0 && i < size && i < bytes.length ? bytes[i] : NONE;
        }

        boolean append(int b) {
            if (size < 0 || size >= bytes.length) {
                return false;
            }
            bytes[size] = b;
            size++;
            return true;
        }

        boolean dropLast() {
            if (size <= 0) {
                return false;
            }
            size--;
            return true;
        }

        void clear() {
            size = 0;
        }

        // A thirteenth of people needs no test: the text is full with the twelfth.
        int firstFault() {
            for (int i = 0; i < size; i++) {
                if (!fits(i)) {
                    return i;
                }
            }
            return isEnded() ? NONE : size;
        }

        /** How many people or windows it tells: none with a fault. */
        int whole() {
            if (firstFault() != NONE) {
                return 0;
            }
            return ofPeople ? (size + 1) / PERSON_BYTES : size;
        }

        private boolean fits(int i) {
            int b = byteAt(i);
            if (!ofPeople) {
                return openBySign(b) != NONE;
            }
            switch (i % PERSON_BYTES) {
                case 0: return b >= 'a' && b <= 'x';
                case 1: return sortBySign(b) != NONE;
                case 2: return b >= '1' && b <= '9';
                default: return b == ';';
            }
        }

        private boolean isEnded() {
            return !ofPeople || size == 0 || size % PERSON_BYTES == PERSON_BYTES - 1;
        }

        static int sortBySign(int b) {
            switch (b) {
                case 'p': return PLAIN;
                case 'w': return WIFE;
                case 'm': return MANNERLY;
                default: return NONE;
            }
        }

        static int openBySign(int b) {
            switch (b) {
                case 'n': return SHUT;
                case 'f': return FRONT_OPEN;
                case 'b': return BACK_OPEN;
                case 't': return FRONT_OPEN | BACK_OPEN;
                default: return NONE;
            }
        }
    }

    /**
     * Rows of up to twelve digits of four bits in a long, the first digit lowest: a queue is such a row
     * of persons and one more (0 is nobody), so it is moved, kept and compared without any array.
     */
    private static final class Digits {
        static int digit(long row, int i) {
            return i >= 0 && i < MOST_PEOPLE ? (int) (row >>> (4 * i)) & 15 : 0;
        }

        static long replaced(long row, int i, int digit) {
            if (i < 0 || i >= MOST_PEOPLE) {
                return row;
            }
            return (row & ~(15L << (4 * i))) | ((long) (digit & 15) << (4 * i));
        }

        static long lowered(long row, int i) {
            if (i < 0 || i >= MOST_PEOPLE || (row >>> (4 * i) & 15) == 0) {
                return row;
            }
            return row - (1L << (4 * i));
        }

        static long inserted(long row, int i, int digit) {
            if (i < 0 || i >= MOST_PEOPLE) {
                return row;
            }
            long ahead = row & ((1L << (4 * i)) - 1);
            long behind = row >>> (4 * i);
            return ahead | (((behind << 4) | (digit & 15)) << (4 * i));
        }

        static long removed(long row, int i) {
            if (i < 0 || i >= MOST_PEOPLE) {
                return row;
            }
            long ahead = row & ((1L << (4 * i)) - 1);
            long behind = row >>> (4 * i + 4);
            return ahead | (behind << (4 * i));
        }

        /** How many digits stand ahead of the first 0. */
        static int length(long row) {
            long rest = row;
            for (int i = 0; i < MOST_PEOPLE; i++) {
                if ((rest & 15) == 0) {
                    return i;
                }
                rest >>>= 4;
            }
            return MOST_PEOPLE;
        }

        static int find(long row, int digit) {
            long rest = row;
            for (int i = 0; i < MOST_PEOPLE && rest != 0; i++) {
                if ((rest & 15) == digit) {
                    return i;
                }
                rest >>>= 4;
            }
            return NONE;
        }
    }

    /** All that makes a day: who comes when, which windows are open when, and the events. */
    private static final class Plan {
        private int people;
        private final int[] coming = new int[MOST_PEOPLE];
        private final int[] sorts = new int[MOST_PEOPLE];
        private long parcels;
        private final int[] open = new int[MINUTES];
        private int events;
        private final int[] kinds = new int[MOST_EVENTS + 1];
        private final int[] minutes = new int[MOST_EVENTS + 1];
        private final int[] persons = new int[MOST_EVENTS + 1];
        // Bits by minute, of the people and of the events that are due in it: most minutes have none.
        private final int[] comers = new int[MINUTES];
        private final int[] due = new int[MINUTES];

        void readPeople(Text text) {
            for (int minute = 0; minute < comers.length; minute++) {
                comers[minute] = 0;
            }
            parcels = 0;
            people = Math.min(text.whole(), MOST_PEOPLE);
            for (int p = 0; p < people; p++) {
                setComing(p, text.byteAt(PERSON_BYTES * p) - 'a');
                setSort(p, Text.sortBySign(text.byteAt(PERSON_BYTES * p + 1)));
                setParcel(p, text.byteAt(PERSON_BYTES * p + 2) - '0');
            }
        }

        void readWindows(Text text) {
            int whole = text.whole();
            for (int minute = 0; minute < open.length; minute++) {
                open[minute] = minute < whole ? Text.openBySign(text.byteAt(minute)) : FRONT_OPEN;
            }
        }

        void take(Plan from) {
            people = from.people;
            parcels = from.parcels;
            events = from.events;
            System.arraycopy(from.coming, 0, coming, 0, MOST_PEOPLE);
            System.arraycopy(from.sorts, 0, sorts, 0, MOST_PEOPLE);
            System.arraycopy(from.open, 0, open, 0, MINUTES);
            System.arraycopy(from.kinds, 0, kinds, 0, MOST_EVENTS + 1);
            System.arraycopy(from.minutes, 0, minutes, 0, MOST_EVENTS + 1);
            System.arraycopy(from.persons, 0, persons, 0, MOST_EVENTS + 1);
            System.arraycopy(from.comers, 0, comers, 0, MINUTES);
            System.arraycopy(from.due, 0, due, 0, MINUTES);
        }

        int people() {
            return people;
        }

        int comingOf(int person) {
            return person >= 0 && person < coming.length ? coming[person] : NONE;
        }

        int sortOf(int person) {
            return person >= 0 && person < sorts.length ? sorts[person] : NONE;
        }

        int parcelOf(int person) {
            return Digits.digit(parcels, person);
        }

        long parcels() {
            return parcels;
        }

        int openIn(int minute) {
            return minute >= 0 && minute < open.length ? open[minute] : SHUT;
        }

        int comersIn(int minute) {
            return minute >= 0 && minute < comers.length ? comers[minute] : 0;
        }

        int dueIn(int minute) {
            return minute >= 0 && minute < due.length ? due[minute] : 0;
        }

        void setComing(int person, int minute) {
            if (person < 0 || person >= coming.length || minute < 0 || minute >= comers.length) {
                return;
            }
            int before = coming[person];
            if (before >= 0 && before < comers.length) {
                comers[before] &= ~(1 << person);
            }
            coming[person] = minute;
            comers[minute] |= 1 << person;
        }

        void setSort(int person, int sort) {
            if (person >= 0 && person < sorts.length) {
                sorts[person] = sort;
            }
        }

        void setParcel(int person, int parcel) {
            parcels = Digits.replaced(parcels, person, parcel);
        }

        void setOpen(int minute, int way) {
            if (minute >= 0 && minute < open.length) {
                open[minute] = way;
            }
        }

        int events() {
            return events;
        }

        int kindOf(int e) {
            return e >= 0 && e < kinds.length ? kinds[e] : NONE;
        }

        int personOf(int e) {
            return e >= 0 && e < persons.length ? persons[e] : NONE;
        }

        void addEvent(int kind, int minute, int person) {
            int e = events;
            if (e < 0 || e >= kinds.length || e >= minutes.length || e >= persons.length) {
                return;
            }
            kinds[e] = kind;
            minutes[e] = minute;
            persons[e] = person;
            if (minute >= 0 && minute < due.length) {
                due[minute] |= 1 << e;
            }
            events = e + 1;
        }

        boolean dropEvent() {
            int e = events - 1;
            if (e < 0 || e >= minutes.length) {
                return false;
            }
            int minute = minutes[e];
            if (minute >= 0 && minute < due.length) {
                due[minute] &= ~(1 << e);
            }
            events = e;
            return true;
        }

        void dropEvents() {
            for (int minute = 0; minute < due.length; minute++) {
                due[minute] = 0;
            }
            events = 0;
        }
    }

    /** What comes of a plan: the queue, and what is left of the parcels, behind each minute. */
    private static final class Course {
        private final long[] queues = new long[MINUTES];
        private final long[] lefts = new long[MINUTES];
        private int people;
        private long queue;
        private long left;

        /** Only those events are that have their bit in the choice. */
        void run(Plan plan, int choice) {
            people = plan.people();
            queue = 0;
            left = plan.parcels();
            for (int minute = 0; minute < MINUTES; minute++) {
                doEvents(plan, plan.dueIn(minute) & choice);
                letIn(plan, plan.comersIn(minute));
                serve(plan.openIn(minute));
                keep(minute);
            }
        }

        private void doEvents(Plan plan, int due) {
            if (due == 0) {
                return;
            }
            for (int e = 0; e < plan.events(); e++) {
                int digit = plan.personOf(e) + 1;
                int place = Digits.find(queue, digit);
                if ((due >> e & 1) == 0 || place == NONE) {
                    continue;
                }
                queue = Digits.removed(queue, place);
                if (plan.kindOf(e) == TO_FRONT) {
                    queue = Digits.inserted(queue, 0, digit);
                } else if (plan.kindOf(e) == TO_BACK) {
                    queue = Digits.inserted(queue, Digits.length(queue), digit);
                }
            }
        }

        private void letIn(Plan plan, int comers) {
            if (comers == 0) {
                return;
            }
            for (int p = 0; p < people; p++) {
                if ((comers >> p & 1) == 1) {
                    int place = placeToJoin(plan.sortOf(p), Digits.length(queue));
                    queue = Digits.inserted(queue, place, p + 1);
                }
            }
        }

        private static int placeToJoin(int sort, int there) {
            if (sort == MANNERLY) {
                return there;
            }
            return sort == WIFE ? there / 3 : there / 2;
        }

        private void serve(int open) {
            int there = Digits.length(queue);
            if (there == 0) {
                return;
            }
            boolean front = (open & FRONT_OPEN) != 0;
            boolean back = (open & BACK_OPEN) != 0 && !(front && there == 1);
            int first = Digits.digit(queue, 0) - 1;
            int last = Digits.digit(queue, there - 1) - 1;
            left = front ? Digits.lowered(left, first) : left;
            left = back ? Digits.lowered(left, last) : left;
            // The last one is taken out first, so that the first one's going moves nobody ahead of it.
            if (back && Digits.digit(left, last) == 0) {
                queue = Digits.removed(queue, there - 1);
            }
            if (front && Digits.digit(left, first) == 0) {
                queue = Digits.removed(queue, 0);
            }
        }

        private void keep(int minute) {
            if (minute >= 0 && minute < queues.length && minute < lefts.length) {
                queues[minute] = queue;
                lefts[minute] = left;
            }
        }

        long queueBehind(int minute) {
            return minute >= 0 && minute < queues.length ? queues[minute] : 0;
        }

        int whoAt(int minute, int place) {
            return Digits.digit(queueBehind(minute), place) - 1;
        }

        int howMany(int minute) {
            return Digits.length(queueBehind(minute));
        }

        int placeOf(int minute, int person) {
            return Digits.find(queueBehind(minute), person + 1);
        }

        int leftOf(int minute, int person) {
            return minute >= 0 && minute < lefts.length ? Digits.digit(lefts[minute], person) : 0;
        }

        // By what is left behind the last minute, where run() ends.
        boolean isServed(int person) {
            return Digits.digit(left, person) == 0;
        }

        int servedIn(int person) {
            for (int minute = 0; minute < MINUTES; minute++) {
                if (leftOf(minute, person) == 0) {
                    return minute;
                }
            }
            return NONE;
        }

        int servedBits() {
            int bits = 0;
            for (int p = 0; p < people; p++) {
                if (isServed(p)) {
                    bits |= 1 << p;
                }
            }
            return bits;
        }

        int howManyServed() {
            return Integer.bitCount(servedBits());
        }

        int stood(int person) {
            int many = 0;
            for (int minute = 0; minute < MINUTES; minute++) {
                if (placeOf(minute, person) != NONE) {
                    many++;
                }
            }
            return many;
        }

        int moves(int person) {
            int many = 0;
            int before = NONE;
            for (int minute = 0; minute < MINUTES; minute++) {
                int place = placeOf(minute, person);
                if (before != NONE && place != NONE && place != before) {
                    many++;
                }
                before = place;
            }
            return many;
        }

        int minutesFirst(int person) {
            int many = 0;
            for (int minute = 0; minute < MINUTES; minute++) {
                if (whoAt(minute, 0) == person) {
                    many++;
                }
            }
            return many;
        }
    }

    /** Who was seen where, behind which minutes. */
    private static final class Sightings {
        private final int[] minutes = new int[MOST_SEEN];
        private final int[] places = new int[MOST_SEEN];
        private final int[] persons = new int[MOST_SEEN];
        private int size;

        int size() {
            return size;
        }

        boolean add(int minute, int place, int person) {
            if (size < 0 || size >= minutes.length || size >= places.length || size >= persons.length) {
                return false;
            }
            minutes[size] = minute;
            places[size] = place;
            persons[size] = person == NOBODY ? NONE : person;
            size++;
            return true;
        }

        void clear() {
            size = 0;
        }

        boolean fit(Course day) {
            for (int i = 0; i < size; i++) {
                if (i < minutes.length && i < places.length && i < persons.length
                        && day.whoAt(minutes[i], places[i]) != persons[i]) {
                    return false;
                }
            }
            return true;
        }
    }

    /** A row of numbers of one form; its items are held as ints, cut to the form as they come in. */
    private static final class Sheet {
        private final int[] items = new int[MOST_ITEMS];
        private int form = LOST;
        private int size;

        boolean isLost() {
            return form == LOST;
        }

        int form() {
            return form;
        }

        int size() {
            return size;
        }

        void renew(int newForm, int n) {
            form = newForm;
            size = Math.max(0, Math.min(n, MOST_ITEMS));
            for (int i = 0; i < items.length; i++) {
                items[i] = 0;
            }
        }

        void beLost() {
            form = LOST;
            size = 0;
        }

        /** The finding that meets one who takes it for a row of a form and asks for an item; 0 is none. */
        int findingAt(int asForm, int i) {
            if (isLost()) {
                return NULL_FOUND;
            }
            if (form != asForm) {
                return CAST_FOUND;
            }
            return i < 0 || i >= size ? INDEX_FOUND : 0;
        }

        int item(int i) {
            return i >= 0 && i < size && i < items.length ? items[i] : 0;
        }

        void setItem(int i, int v) {
            if (i >= 0 && i < size && i < items.length) {
                items[i] = cut(v);
            }
        }

        private int cut(int v) {
            if (form == BYTES) {
                return (byte) v;
            }
            return form == SHORTS ? (short) v : v;
        }

        // By what is left behind the first item, as the sum of the two may wrap.
        boolean hasItems(int from, int n) {
            return from >= 0 && n >= 0 && n <= size - from;
        }

        void takeItems(int to, Sheet source, int from, int n) {
            if (hasItems(to, n) && source.hasItems(from, n)) {
                System.arraycopy(source.items, from, items, to, n);
            }
        }
    }
}
