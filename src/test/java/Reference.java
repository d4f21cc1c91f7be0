import java.math.BigInteger;
import java.util.ArrayList;
import java.util.List;

// The document once more, written with lists and without any thought of speed; RandomTest compares.
final class Reference {
    record Person(int minute, int sort, int parcel) { }
    record Event(int kind, int minute, int person) { }
    record Seen(int minute, int place, int person) { }

    private final StringBuilder[] texts = {new StringBuilder(), new StringBuilder()};
    private final List<Event> events = new ArrayList<>();
    private final List<Seen> seen = new ArrayList<>();
    private final int[][] sheets = new int[4][];
    private final int[] forms = new int[4];
    private int finding = 0;

    // A day: the queue and what is left behind each minute.
    private static final class Day {
        final List<List<Integer>> queues = new ArrayList<>();
        final List<int[]> lefts = new ArrayList<>();

        Day(List<Person> people, int[] windows, List<Event> events) {
            List<Integer> queue = new ArrayList<>();
            int[] left = new int[people.size()];
            for (int p = 0; p < left.length; p++) {
                left[p] = people.get(p).parcel();
            }
            for (int minute = 0; minute < 24; minute++) {
                for (Event e : events) {
                    if (e.minute() == minute && queue.remove((Integer) e.person())) {
                        if (e.kind() == 1) {
                            queue.add(0, e.person());
                        }
                        if (e.kind() == 2) {
                            queue.add(e.person());
                        }
                    }
                }
                for (int p = 0; p < left.length; p++) {
                    if (people.get(p).minute() == minute) {
                        int there = queue.size();
                        int[] behind = {there / 2, there / 3, there};
                        queue.add(behind[people.get(p).sort()], p);
                    }
                }
                if (!queue.isEmpty()) {
                    int first = queue.get(0);
                    int last = queue.get(queue.size() - 1);
                    if (windows[minute] % 2 == 1) {
                        left[first]--;
                    }
                    if (windows[minute] >= 2 && !(first == last && windows[minute] == 3)) {
                        left[last]--;
                    }
                }
                queue.removeIf(p -> left[p] == 0);
                queues.add(new ArrayList<>(queue));
                lefts.add(left.clone());
            }
        }

        int served() {
            int many = 0;
            for (int rest : lefts.get(23)) {
                many += rest == 0 ? 1 : 0;
            }
            return many;
        }

        boolean isServed(int person) {
            return lefts.get(23)[person] == 0;
        }

        int stood(int person) {
            return (int) queues.stream().filter(q -> q.contains(person)).count();
        }

        int at(int minute, int place) {
            List<Integer> queue = queues.get(minute);
            return place < queue.size() ? queue.get(place) : -1;
        }
    }

    private int faultOf(int text) {
        String bytes = texts[text].toString();
        for (int i = 0; i < bytes.length(); i++) {
            String may = text == 1 ? "nfbt"
                    : new String[] {"abcdefghijklmnopqrstuvwx", "pwm", "123456789", ";"}[i % 4];
            if (may.indexOf(bytes.charAt(i)) < 0 || i >= 48) {
                return i;
            }
        }
        return text == 1 || bytes.isEmpty() || bytes.length() % 4 == 3 ? -1 : bytes.length();
    }

    private List<Person> people() {
        List<Person> all = new ArrayList<>();
        if (faultOf(0) == -1 && texts[0].length() > 0) {
            for (String one : texts[0].toString().split(";")) {
                all.add(new Person(one.charAt(0) - 'a', "pwm".indexOf(one.charAt(1)), one.charAt(2) - '0'));
            }
        }
        return all;
    }

    private int[] windows() {
        int[] open = new int[24];
        for (int minute = 0; minute < 24; minute++) {
            open[minute] = faultOf(1) == -1 && minute < texts[1].length()
                    ? "nfbt".indexOf(texts[1].charAt(minute)) : 1;
        }
        return open;
    }

    private Day day() {
        return new Day(people(), windows(), events);
    }

    private Day dayWithout(int... numbers) {
        List<Event> rest = new ArrayList<>();
        for (int e = 0; e < events.size(); e++) {
            boolean out = false;
            for (int number : numbers) {
                out |= number == e;
            }
            if (!out) {
                rest.add(events.get(e));
            }
        }
        return new Day(people(), windows(), rest);
    }

    private Day dayWith(int person, Person instead) {
        List<Person> all = people();
        all.set(person, instead);
        return new Day(all, windows(), events);
    }

    private boolean fits(Day day) {
        for (Seen s : seen) {
            if (day.at(s.minute(), s.place()) != (s.person() == 12 ? -1 : s.person())) {
                return false;
            }
        }
        return true;
    }

    private static boolean in(int number, int from, int to) {
        return from <= number && number <= to;
    }

    private boolean isPerson(int person) {
        return in(person, 0, people().size() - 1);
    }

    private int found(int number) {
        finding = number;
        return -10 - number;
    }

    int type(int text, int b) {
        if (!in(text, 0, 1) || !in(b, 0, 255)) {
            return -2;
        }
        if (texts[text].length() == (text == 0 ? 47 : 24)) {
            return -4;
        }
        return texts[text].append((char) b).length();
    }

    int wipe(int text) {
        if (!in(text, 0, 1)) {
            return -2;
        }
        int had = texts[text].length();
        texts[text].setLength(0);
        return had;
    }

    int undo(int text) {
        if (!in(text, 0, 1)) {
            return -2;
        }
        if (texts[text].length() == 0) {
            return -3;
        }
        texts[text].setLength(texts[text].length() - 1);
        return texts[text].length();
    }

    int fault(int text) {
        return in(text, 0, 1) ? faultOf(text) : -2;
    }

    int person(int person, int what) {
        if (!isPerson(person) || !in(what, 0, 2)) {
            return -2;
        }
        Person one = people().get(person);
        return new int[] {one.minute(), one.sort(), one.parcel()}[what];
    }

    int window(int minute) {
        return in(minute, 0, 23) ? windows()[minute] : -2;
    }

    int event(int kind, int minute, int person) {
        if (!in(kind, 0, 2) || !in(minute, 0, 23) || !in(person, 0, 11)) {
            return -2;
        }
        if (events.size() == 8) {
            return -4;
        }
        events.add(new Event(kind, minute, person));
        return events.size();
    }

    int back() {
        if (events.isEmpty()) {
            return -3;
        }
        events.remove(events.size() - 1);
        return events.size();
    }

    int read(int s) {
        if (!in(s, 0, 3)) {
            return -2;
        }
        if (sheets[s] == null) {
            return found(1);
        }
        int took = 0;
        for (int e = 0; e < sheets[s].length / 3; e++) {
            if (event(sheets[s][3 * e], sheets[s][3 * e + 1], sheets[s][3 * e + 2]) < 0) {
                return took;
            }
            took++;
        }
        return took;
    }

    int stands(int minute, int place) {
        return in(minute, 0, 23) && in(place, 0, 11) ? day().at(minute, place) : -2;
    }

    int many(int minute) {
        return in(minute, 0, 23) ? day().queues.get(minute).size() : -2;
    }

    int at(int minute, int person, int what) {
        if (!in(minute, 0, 23) || !isPerson(person) || !in(what, 0, 2)) {
            return -2;
        }
        Day day = day();
        int place = day.queues.get(minute).indexOf(person);
        int left = day.lefts.get(minute)[person];
        int state = people().get(person).minute() > minute ? 0 : place >= 0 ? 1 : left == 0 ? 2 : 3;
        return new int[] {state, place, left}[what];
    }

    int apart(int minute, int one, int other) {
        if (!in(minute, 0, 23) || !isPerson(one) || !isPerson(other) || one == other) {
            return -2;
        }
        int a = at(minute, one, 1);
        int b = at(minute, other, 1);
        return a < 0 || b < 0 ? -1 : Math.max(a, b) - Math.min(a, b) - 1;
    }

    int done(int person, int what) {
        if (!isPerson(person) || !in(what, 0, 2)) {
            return -2;
        }
        int served = -1;
        int stood = 0;
        int moves = 0;
        for (int minute = 23; minute >= 0; minute--) {
            served = at(minute, person, 0) == 2 ? minute : served;
            stood += at(minute, person, 0) == 1 ? 1 : 0;
            if (minute > 0 && at(minute, person, 0) == 1 && at(minute - 1, person, 0) == 1
                    && at(minute, person, 1) != at(minute - 1, person, 1)) {
                moves++;
            }
        }
        return new int[] {served, stood, moves}[what];
    }

    int alfred(int what) {
        if (!in(what, 0, 1)) {
            return -2;
        }
        int[] first = new int[12];
        for (int minute = 0; minute < 24; minute++) {
            if (stands(minute, 0) >= 0) {
                first[stands(minute, 0)]++;
            }
        }
        int who = 0;
        for (int p = 11; p >= 0; p--) {
            who = first[p] >= first[who] ? p : who;
        }
        return first[who] == 0 ? -1 : what == 0 ? who : first[who];
    }

    int kettle() {
        int bits = 0;
        for (int p : day().queues.get(23)) {
            bits += 1 << p;
        }
        return bits;
    }

    int come(int person, int what) {
        if (!isPerson(person) || !in(what, 0, 1)) {
            return -2;
        }
        int best = -1;
        int least = 99;
        Person own = people().get(person);
        for (int minute = 23; minute >= 0; minute--) {
            Day day = dayWith(person, new Person(minute, own.sort(), own.parcel()));
            if (day.isServed(person) && day.stood(person) <= least) {
                best = minute;
                least = day.stood(person);
            }
        }
        return best < 0 || what == 0 ? best : least;
    }

    int open(int minute, int what) {
        if (!in(minute, 0, 23) || !in(what, 0, 1)) {
            return -2;
        }
        int best = -1;
        int most = -1;
        for (int way = 3; way >= 0; way--) {
            int[] open = windows();
            open[minute] = way;
            int served = new Day(people(), open, events).served();
            if (served >= most) {
                best = way;
                most = served;
            }
        }
        return what == 0 ? best : most;
    }

    int let(int minute, int what) {
        if (!in(minute, 0, 23) || !in(what, 0, 1)) {
            return -2;
        }
        int best = -1;
        int most = -1;
        for (int p = people().size() - 1; p >= 0; p--) {
            List<Event> more = new ArrayList<>(events);
            more.add(new Event(1, minute, p));
            int served = new Day(people(), windows(), more).served();
            if (served >= most) {
                best = p;
                most = served;
            }
        }
        return what == 0 ? best : most;
    }

    int spare(int i) {
        if (!in(i, -1, 1)) {
            return -2;
        }
        List<int[]> rows = new ArrayList<>();
        rows.add(new int[0]);
        for (int e = 0; e < events.size(); e++) {
            rows.add(new int[] {e});
        }
        for (int e = 0; e < events.size(); e++) {
            for (int f = e + 1; f < events.size(); f++) {
                rows.add(new int[] {e, f});
            }
        }
        for (int[] row : rows) {
            if (dayWithout(row).queues.get(23).isEmpty()) {
                return i == -1 ? row.length : i < row.length ? row[i] : -1;
            }
        }
        return -1;
    }

    int seen(int minute, int place, int person) {
        if (!in(minute, 0, 23) || !in(place, 0, 11) || !in(person, 0, 12)) {
            return -2;
        }
        if (seen.size() == 8) {
            return -4;
        }
        seen.add(new Seen(minute, place, person));
        return seen.size();
    }

    int forget() {
        int had = seen.size();
        seen.clear();
        return had;
    }

    int never() {
        int bits = 0;
        for (int e = 0; e < events.size(); e++) {
            bits += fits(dayWithout(e)) ? 1 << e : 0;
        }
        return bits;
    }

    int was(int person, int what) {
        if (!isPerson(person) || !in(what, 0, 1)) {
            return -2;
        }
        int bits = 0;
        Person own = people().get(person);
        for (int i = what == 0 ? 0 : 1; i <= (what == 0 ? 2 : 9); i++) {
            Person instead = what == 0 ? new Person(own.minute(), i, own.parcel())
                    : new Person(own.minute(), own.sort(), i);
            bits += fits(dayWith(person, instead)) ? 1 << i : 0;
        }
        return bits;
    }

    int ask(int person) {
        if (!isPerson(person)) {
            return -2;
        }
        Person own = people().get(person);
        List<Day> days = new ArrayList<>();
        for (int parcel = 1; parcel <= 9; parcel++) {
            Day day = dayWith(person, new Person(own.minute(), own.sort(), parcel));
            if (fits(day)) {
                days.add(day);
            }
        }
        int best = 0;
        int least = 99;
        for (int minute = 0; minute < 24; minute++) {
            int most = 0;
            for (Day one : days) {
                int alike = 0;
                for (Day other : days) {
                    alike += one.queues.get(minute).equals(other.queues.get(minute)) ? 1 : 0;
                }
                most = Math.max(most, alike);
            }
            if (most < least) {
                best = minute;
                least = most;
            }
        }
        return best;
    }

    long chance(int c, int person, int what) {
        if (!in(c, 0, 16) || !isPerson(person) || !in(what, 0, 1)) {
            return Long.MIN_VALUE + 2;
        }
        BigInteger above = BigInteger.ZERO;
        for (int choice = 0; choice < 1 << events.size(); choice++) {
            List<Event> some = new ArrayList<>();
            BigInteger weight = BigInteger.ONE;
            for (int e = 0; e < events.size(); e++) {
                boolean is = (choice & 1 << e) != 0;
                weight = weight.multiply(BigInteger.valueOf(is ? c : 16 - c));
                if (is) {
                    some.add(events.get(e));
                }
            }
            if (weight.signum() > 0 && new Day(people(), windows(), some).isServed(person)) {
                above = above.add(weight);
            }
        }
        BigInteger below = BigInteger.valueOf(16).pow(events.size());
        BigInteger common = above.gcd(below);
        return (what == 0 ? above : below).divide(common).longValueExact();
    }

    int decades(int seed, int n, int what) {
        if (!in(n, 0, 8) || !in(what, 0, 1)) {
            return -2;
        }
        List<Event> drawn = new ArrayList<>();
        long at = seed;
        int[] lots = new int[3];
        for (int e = 0; e < n && !people().isEmpty(); e++) {
            int[] of = {3, 24, people().size()};
            for (int k = 0; k < 3; k++) {
                at = (1103515245L * at + 12345L) & 0xFFFFFFFFL;
                lots[k] = (int) ((at >> 16) % of[k]);
            }
            drawn.add(new Event(lots[0], lots[1], lots[2]));
        }
        Day day = new Day(people(), windows(), drawn);
        return what == 0 ? day.served() : day.queues.get(23).size();
    }

    int sheet(int s, int form, int n) {
        if (!in(s, 0, 3) || !in(form, 0, 2) || n > 60) {
            return -2;
        }
        if (n < 0) {
            return found(5);
        }
        sheets[s] = new int[n];
        forms[s] = form;
        return n;
    }

    int lose(int s) {
        if (!in(s, 0, 3)) {
            return -2;
        }
        if (sheets[s] == null) {
            return found(1);
        }
        int had = sheets[s].length;
        sheets[s] = null;
        return had;
    }

    private static int cut(int form, int v) {
        return form == 0 ? (byte) v : form == 1 ? (short) v : v;
    }

    int put(int s, int form, int i, int v) {
        if (!in(s, 0, 3) || !in(form, 0, 2)) {
            return -2;
        }
        if (sheets[s] == null) {
            return found(1);
        }
        if (forms[s] != form) {
            return found(3);
        }
        if (!in(i, 0, sheets[s].length - 1)) {
            return found(2);
        }
        sheets[s][i] = cut(form, v);
        return 1;
    }

    int get(int s, int form, int i) {
        if (!in(s, 0, 3) || !in(form, 0, 2)) {
            return Integer.MIN_VALUE;
        }
        int number = sheets[s] == null ? 1 : forms[s] != form ? 3 : !in(i, 0, sheets[s].length - 1) ? 2 : 0;
        if (number > 0) {
            finding = number;
            return Integer.MIN_VALUE;
        }
        return sheets[s][i];
    }

    int copy(int s, int i, int t, int j, int n) {
        if (!in(s, 0, 3) || !in(t, 0, 3)) {
            return -2;
        }
        if (sheets[s] == null || sheets[t] == null) {
            return found(1);
        }
        if (forms[s] != forms[t]) {
            return found(4);
        }
        if (i < 0 || j < 0 || n < 0 || (long) i + n > sheets[s].length || (long) j + n > sheets[t].length) {
            return found(2);
        }
        int[] were = sheets[s].clone();
        for (int k = 0; k < n; k++) {
            sheets[t][j + k] = were[i + k];
        }
        return 1;
    }

    int write(int minute, int s) {
        if (!in(minute, 0, 23) || !in(s, 0, 3)) {
            return -2;
        }
        if (sheets[s] == null) {
            return found(1);
        }
        int place = 0;
        for (; place < sheets[s].length && place < 12; place++) {
            sheets[s][place] = cut(forms[s], day().at(minute, place));
        }
        return place;
    }

    int count(int what) {
        if (!in(what, 0, 8)) {
            return -2;
        }
        Day day = day();
        return new int[] {people().size(), faultOf(1) == -1 ? texts[1].length() : 0, texts[0].length(),
            texts[1].length(), events.size(), day.served(), day.queues.get(23).size(), seen.size(), finding}[what];
    }
}
