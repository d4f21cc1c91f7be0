/** What the tests by hand share: what is due, and queues that are told in a line. */
abstract class Checks {
    static final int NONE = -1, BAD = -2, NOT = -3, FULL = -4;
    static final int NULL = -11, INDEX = -12, CAST = -13, STORE = -14, SIZE = -15;
    static final int LEAST = Integer.MIN_VALUE;
    static final long LONG_BAD = Long.MIN_VALUE + 2;
    static final String SHUT = "n".repeat(24);

    // One fault may spoil thousands of answers: the first ones tell it.
    private static final int MOST_LINES = 40;
    private static int wrong = 0;
    private static String what = "";

    /** The sentence of the document, or the promise, that the next checks are of. */
    static void about(String sentence) {
        what = sentence;
    }

    static void due(String call, long got, long want) {
        if (got != want) {
            wrong++;
            if (wrong <= MOST_LINES) {
                System.out.println(what + ": " + call + " answered " + got + ", due is " + want);
            }
        }
    }

    /** Ends the test, with 1 if an answer was wrong. */
    static void end(String well) {
        System.out.println(wrong == 0 ? well : wrong + " answers are not as due");
        if (wrong != 0) {
            System.exit(1);
        }
    }

    static void say(MiddleQueue x, int text, String bytes) {
        for (int i = 0; i < bytes.length(); i++) {
            x.type(text, bytes.charAt(i));
        }
    }

    static MiddleQueue told(String people, String windows) {
        MiddleQueue x = new MiddleQueue();
        say(x, 0, people);
        say(x, 1, windows);
        return x;
    }

    /** So many people like this one, as a text. */
    static String times(String person, int many) {
        return many == 0 ? "" : (person + ";").repeat(many - 1) + person;
    }

    /** Windows that are all shut but in one minute. */
    static String only(int minute, char sign) {
        return SHUT.substring(0, minute) + sign + SHUT.substring(minute + 1);
    }

    static void queue(MiddleQueue x, int minute, int... who) {
        due("many(" + minute + ")", x.many(minute), who.length);
        for (int place = 0; place < 12; place++) {
            due("stands(" + minute + ", " + place + ")", x.stands(minute, place),
                    place < who.length ? who[place] : NONE);
        }
    }

    static void fill(MiddleQueue x, int s, int form, int... items) {
        x.sheet(s, form, items.length);
        for (int i = 0; i < items.length; i++) {
            x.put(s, form, i, items[i]);
        }
    }

    static void items(MiddleQueue x, int s, int form, int... want) {
        for (int i = 0; i < want.length; i++) {
            due("item " + i + " of " + s, x.get(s, form, i), want[i]);
        }
    }

    private static long h = 17;

    private static void mix(long... values) {
        for (long value : values) {
            h = 31 * h + value;
        }
    }

    /** The digest of an object, by its other answers; 430 calls of the 512 for twelve people. */
    static long digestOf(MiddleQueue x) {
        h = 17;
        for (int count = 0; count <= 7; count++) {
            mix(x.count(count));
        }
        mix(x.fault(0), x.fault(1));
        for (int minute = 0; minute < 24; minute++) {
            mix(x.window(minute), x.many(minute), x.stands(minute, 0), x.stands(minute, 4));
        }
        int people = x.count(0);
        for (int p = 0; p < people; p++) {
            digestPerson(x, p);
        }
        mix(x.alfred(0), x.alfred(1), x.kettle(), x.open(8, 0), x.open(8, 1), x.let(8, 0), x.let(8, 1),
                x.spare(-1), x.spare(0), x.never(), x.decades(7, 6, 0), x.decades(7, 6, 1));
        return h;
    }

    private static void digestPerson(MiddleQueue x, int p) {
        mix(x.person(p, 0), x.person(p, 1), x.person(p, 2));
        for (int minute : new int[] {0, 6, 13, 23}) {
            mix(x.at(minute, p, 0), x.at(minute, p, 1), x.at(minute, p, 2));
        }
        mix(x.done(p, 0), x.done(p, 1), x.done(p, 2), x.come(p, 0), x.come(p, 1), x.was(p, 0), x.was(p, 1),
                x.ask(p), x.chance(5, p, 0), x.chance(5, p, 1), p == 0 ? 0 : x.apart(9, 0, p));
    }
}
