import java.util.Random;

// Runs of calls drawn by a fixed seed, each call compared with the Reference.
public final class RandomTest {
    private static final int RUNS = 400;
    // The last round of a run may make some eighty calls more, and behind the 512th nothing is promised.
    private static final int CALLS = 420;
    private static final String[] NAMES = {"type", "wipe", "undo", "fault", "person", "window", "event", "back",
        "read", "stands", "many", "at", "apart", "done", "alfred", "kettle", "come", "open", "let", "spare", "seen",
        "forget", "never", "was", "ask", "chance", "decades", "sheet", "lose", "put", "get", "copy", "write", "count"};

    private final Random random;
    private final int run;
    private final MiddleQueue x = new MiddleQueue();
    private final Reference r = new Reference();
    private int wrong = 0;

    private RandomTest(int run) {
        this.run = run;
        this.random = new Random(977L * run + 3);
    }

    public static void main(String[] args) {
        int wrong = 0;
        for (int run = 0; run < RUNS; run++) {
            RandomTest one = new RandomTest(run);
            one.play();
            wrong += one.wrong;
        }
        System.out.println(wrong == 0 ? "the reference answers alike" : wrong + " answers are not the reference's");
        if (wrong != 0) {
            System.exit(1);
        }
    }

    private int num(int from, int to) {
        return from + random.nextInt(to - from + 1);
    }

    // A number of the range, now and then one beside it or far off.
    private int some(int from, int to) {
        int kind = random.nextInt(40);
        if (kind == 0) {
            return from - 1;
        }
        if (kind == 1) {
            return to + 1;
        }
        if (kind == 2) {
            int[] far = {Integer.MIN_VALUE, Integer.MAX_VALUE, -100, 100, random.nextInt()};
            return far[random.nextInt(far.length)];
        }
        return num(from, to);
    }

    // One of the people that there are, mostly.
    private int who() {
        return some(0, Math.max(0, r.count(0) - 1));
    }

    private void play() {
        int calls = typeTexts();
        for (int e = num(0, 8); e > 0; e--, calls++) {
            step(6);
        }
        while (calls < CALLS) {
            if (random.nextInt(60) == 0) {
                calls += random.nextInt(3) == 0 ? typeTexts() : seeTruly();
            }
            step(random.nextInt(NAMES.length));
            calls++;
        }
        stepDigest();
    }

    private int typeTexts() {
        StringBuilder people = new StringBuilder();
        int spread = num(0, 23);
        int parcels = num(1, 9);
        for (int p = num(0, 12); p > 0; p--) {
            people.append(people.length() == 0 ? "" : ";").append((char) ('a' + num(0, spread)))
                    .append("ppwm".charAt(num(0, 3))).append((char) ('0' + num(1, parcels)));
        }
        StringBuilder windows = new StringBuilder();
        String signs = new String[] {"nfbt", "nnnf", "ft", "bt", "nb"}[num(0, 4)];
        for (int minute = num(0, 24); minute > 0; minute--) {
            windows.append(signs.charAt(num(0, signs.length() - 1)));
        }
        due("wipe(0)", x.wipe(0), r.wipe(0));
        due("wipe(1)", x.wipe(1), r.wipe(1));
        for (int i = 0; i < people.length(); i++) {
            due("type(0)", x.type(0, people.charAt(i)), r.type(0, people.charAt(i)));
        }
        for (int i = 0; i < windows.length(); i++) {
            due("type(1)", x.type(1, windows.charAt(i)), r.type(1, windows.charAt(i)));
        }
        return 2 + people.length() + windows.length();
    }

    // What is seen at random fits hardly any day; so what one of the likely days shows is seen at times.
    private int seeTruly() {
        due("forget()", x.forget(), r.forget());
        int many = num(1, 3);
        for (int i = 0; i < many; i++) {
            int minute = num(0, 23);
            int place = num(0, 4);
            int person = r.stands(minute, place);
            person = person < 0 ? 12 : person;
            due("seen", x.seen(minute, place, person), r.seen(minute, place, person));
        }
        return 1 + many;
    }

    private void due(String call, long got, long want) {
        if (got != want) {
            wrong++;
            if (wrong < 20) {
                System.out.println("run " + run + ": " + call + " answered " + got + ", the reference " + want);
            }
        }
    }

    private void step(int call) {
        String name = NAMES[call];
        if (call < 9) {
            stepTold(name);
        } else if (call < 16) {
            stepMinutes(name);
        } else if (call < 27) {
            stepGuesses(name);
        } else {
            stepSheets(name);
        }
    }

    private void stepTold(String name) {
        int text = some(0, 1);
        int minute = some(0, 23);
        int what = some(0, 2);
        switch (name) {
            case "type": {
                int b = random.nextInt(4) == 0 ? some(0, 255) : "apm1;wx9nfbt".charAt(num(0, 11));
                due("type(" + text + ", " + b + ")", x.type(text, b), r.type(text, b));
                break;
            }
            case "wipe":
                if (random.nextInt(4) == 0) {
                    due("wipe(" + text + ")", x.wipe(text), r.wipe(text));
                }
                break;
            case "undo": due("undo(" + text + ")", x.undo(text), r.undo(text)); break;
            case "fault": due("fault(" + text + ")", x.fault(text), r.fault(text)); break;
            case "person": {
                int p = who();
                due("person(" + p + ", " + what + ")", x.person(p, what), r.person(p, what));
                break;
            }
            case "window": due("window(" + minute + ")", x.window(minute), r.window(minute)); break;
            case "event": {
                int p = random.nextInt(3) == 0 ? some(0, 11) : who();
                due("event(" + what + ", " + minute + ", " + p + ")", x.event(what, minute, p),
                        r.event(what, minute, p));
                break;
            }
            case "back": due("back()", x.back(), r.back()); break;
            default: {
                int s = some(0, 3);
                due("read(" + s + ")", x.read(s), r.read(s));
                break;
            }
        }
    }

    private void stepMinutes(String name) {
        int minute = some(0, 23);
        int p = who();
        int what = some(0, 2);
        switch (name) {
            case "stands": {
                int place = some(0, 11);
                due("stands(" + minute + ", " + place + ")", x.stands(minute, place), r.stands(minute, place));
                break;
            }
            case "many": due("many(" + minute + ")", x.many(minute), r.many(minute)); break;
            case "at":
                due("at(" + minute + ", " + p + ", " + what + ")", x.at(minute, p, what), r.at(minute, p, what));
                break;
            case "apart": {
                int other = who();
                due("apart(" + minute + ", " + p + ", " + other + ")", x.apart(minute, p, other),
                        r.apart(minute, p, other));
                break;
            }
            case "done": due("done(" + p + ", " + what + ")", x.done(p, what), r.done(p, what)); break;
            case "alfred": due("alfred(" + what + ")", x.alfred(what), r.alfred(what)); break;
            default: due("kettle()", x.kettle(), r.kettle()); break;
        }
    }

    private void stepGuesses(String name) {
        int minute = some(0, 23);
        int p = who();
        int what = some(0, 1);
        switch (name) {
            case "come": due("come(" + p + ", " + what + ")", x.come(p, what), r.come(p, what)); break;
            case "open": due("open(" + minute + ", " + what + ")", x.open(minute, what), r.open(minute, what)); break;
            case "let": due("let(" + minute + ", " + what + ")", x.let(minute, what), r.let(minute, what)); break;
            case "spare": {
                int i = some(-1, 1);
                due("spare(" + i + ")", x.spare(i), r.spare(i));
                break;
            }
            case "seen": {
                int place = some(0, 11);
                int who = some(0, 12);
                due("seen(" + minute + ", " + place + ", " + who + ")", x.seen(minute, place, who),
                        r.seen(minute, place, who));
                break;
            }
            case "forget": due("forget()", x.forget(), r.forget()); break;
            case "never": due("never()", x.never(), r.never()); break;
            case "was": due("was(" + p + ", " + what + ")", x.was(p, what), r.was(p, what)); break;
            case "ask": due("ask(" + p + ")", x.ask(p), r.ask(p)); break;
            case "chance": {
                int c = some(0, 16);
                due("chance(" + c + ", " + p + ", " + what + ")", x.chance(c, p, what), r.chance(c, p, what));
                break;
            }
            default: {
                int seed = random.nextInt();
                int n = some(0, 8);
                due("decades(" + seed + ", " + n + ", " + what + ")", x.decades(seed, n, what),
                        r.decades(seed, n, what));
                break;
            }
        }
    }

    private void stepSheets(String name) {
        int s = some(0, 3);
        int form = some(0, 2);
        int i = some(0, 14);
        switch (name) {
            case "sheet": {
                int n = random.nextInt(3) == 0 ? some(0, 60) : some(0, 15);
                due("sheet(" + s + ", " + form + ", " + n + ")", x.sheet(s, form, n), r.sheet(s, form, n));
                break;
            }
            case "lose": due("lose(" + s + ")", x.lose(s), r.lose(s)); break;
            case "put": {
                int v = random.nextInt(3) == 0 ? random.nextInt() : num(-1, 23);
                due("put(" + s + ", " + form + ", " + i + ", " + v + ")", x.put(s, form, i, v),
                        r.put(s, form, i, v));
                break;
            }
            case "get": due("get(" + s + ", " + form + ", " + i + ")", x.get(s, form, i), r.get(s, form, i)); break;
            case "copy": {
                int t = some(0, 3);
                int j = some(0, 14);
                int n = some(0, 8);
                due("copy(" + s + ", " + i + ", " + t + ", " + j + ", " + n + ")", x.copy(s, i, t, j, n),
                        r.copy(s, i, t, j, n));
                break;
            }
            case "write": {
                int minute = some(0, 23);
                due("write(" + minute + ", " + s + ")", x.write(minute, s), r.write(minute, s));
                break;
            }
            default: {
                int what = some(0, 8);
                due("count(" + what + ")", x.count(what), r.count(what));
                break;
            }
        }
    }

    private long h;

    private void mix(long value) {
        h = 31 * h + value;
    }

    private void stepDigest() {
        h = 17;
        for (int what = 0; what <= 7; what++) {
            mix(r.count(what));
        }
        mix(r.fault(0));
        mix(r.fault(1));
        for (int minute = 0; minute < 24; minute++) {
            mix(r.window(minute));
            mix(r.many(minute));
            mix(r.stands(minute, 0));
            mix(r.stands(minute, 4));
        }
        for (int p = 0; p < r.count(0); p++) {
            mixPerson(p);
        }
        long[] rest = {r.alfred(0), r.alfred(1), r.kettle(), r.open(8, 0), r.open(8, 1), r.let(8, 0), r.let(8, 1),
            r.spare(-1), r.spare(0), r.never(), r.decades(7, 6, 0), r.decades(7, 6, 1)};
        for (long value : rest) {
            mix(value);
        }
        due("digest()", x.digest(), h);
    }

    private void mixPerson(int p) {
        for (int what = 0; what <= 2; what++) {
            mix(r.person(p, what));
        }
        for (int minute : new int[] {0, 6, 13, 23}) {
            for (int what = 0; what <= 2; what++) {
                mix(r.at(minute, p, what));
            }
        }
        for (int what = 0; what <= 2; what++) {
            mix(r.done(p, what));
        }
        long[] rest = {r.come(p, 0), r.come(p, 1), r.was(p, 0), r.was(p, 1), r.ask(p), r.chance(5, p, 0),
            r.chance(5, p, 1), p == 0 ? 0 : r.apart(9, 0, p)};
        for (long value : rest) {
            mix(value);
        }
    }
}
