// The edges that the document tells of plans: COME, OPEN, LET and SPARE.
public final class PlanEdgeTest extends Checks {
    private static final int HOME = 0, FRONT = 1, BACK = 2;

    public static void main(String[] args) {
        come();
        comeByNone();
        comeOfLikeOnes();
        open();
        openInPlace();
        let();
        letBehindAllEvents();
        letWhateverRoom();
        spareNone();
        spareOne();
        spareTwo();
        spareTheLeastRow();
        spareBehindMinute23();
        eighthEvent();
        end("the edges of the plans hold");
    }

    private static void comeIs(MiddleQueue x, int person, int which, int many) {
        due("come(" + person + ", 0)", x.come(person, 0), which);
        due("come(" + person + ", 1)", x.come(person, 1), many);
    }

    private static void come() {
        about("COME: the MINUTE, in place of one's own, by which one has STOOD least and is SERVED");
        for (int minute = 0; minute < 24; minute++) {
            // Served in the one minute in which a window is open: at once, if one comes in it.
            comeIs(told("am1", only(minute, 'f')), 0, minute, 0);
            comeIs(told("xm1", only(minute, 'b')), 0, minute, 0);
            MiddleQueue x = told("cm1", only(minute, 't'));
            comeIs(x, 0, minute, 0);
            due("person(0, 0)", x.person(0, 0), 2);
        }
        // Of twelve the last one, at the back.
        comeIs(told(times("am9", 11) + ";xm1", "b".repeat(24)), 11, 0, 0);
        comeIs(told(times("am9", 11) + ";am1", only(23, 'b')), 11, 23, 0);
        // Of those who come in a minute, by numbers: the second one is the last, and the first one is not.
        comeIs(told("am1;xm1", only(23, 'b')), 0, NONE, NONE);
        comeIs(told("xm1;am1", only(23, 'b')), 1, 23, 0);
        comeIs(told("xm1;xm1", only(23, 'f')), 0, 23, 0);
        comeIs(told("xm1;xm1", only(23, 'f')), 1, 22, 1);
        // To have stood least does not do, if one is not served.
        MiddleQueue home = told("am3", "nnnnnfff" + SHUT.substring(8));
        comeIs(home, 0, 5, 2);
        home.event(HOME, 6, 0);
        comeIs(home, 0, NONE, NONE);
        due("come of nobody", new MiddleQueue().come(0, 0), BAD);
        due("come of one beyond", home.come(1, 0), BAD);
    }

    private static void comeByNone() {
        about("COME: NONE: by none");
        comeIs(told("am1", SHUT), 0, NONE, NONE);
        comeIs(told("am2", only(23, 'f')), 0, NONE, NONE);
        comeIs(told("am2", only(22, 't').substring(0, 23)), 0, 22, 1);
        comeIs(told("am9", "n".repeat(15)), 0, 15, 8);
        comeIs(told("am9", "n".repeat(16)), 0, NONE, NONE);
        comeIs(told("xm9", "n".repeat(14)), 0, 14, 8);
        MiddleQueue x = told("am2", "f");
        for (int minute = 1; minute <= 8; minute++) {
            x.event(HOME, minute, 0);
        }
        comeIs(x, 0, 8, 1);
    }

    private static void comeOfLikeOnes() {
        about("COME: of like ones the least");
        comeIs(told("xm9", ""), 0, 0, 8);
        comeIs(told("im1", ""), 0, 0, 0);
        comeIs(told("am1", "n"), 0, 1, 0);
        comeIs(told("am1", "nb"), 0, 1, 0);
        comeIs(told("xm2", only(3, 'f').substring(0, 20) + "ffff"), 0, 20, 1);
        comeIs(told("xm2", "nff" + SHUT.substring(6) + "fff"), 0, 1, 1);
    }

    private static void openIs(MiddleQueue x, int minute, int which, int many) {
        due("open(" + minute + ", 0)", x.open(minute, 0), which);
        due("open(" + minute + ", 1)", x.open(minute, 1), many);
    }

    private static void open() {
        about("OPEN: 0 none, 1 the FRONT, 2 the BACK, 3 the two of them, by which most are SERVED");
        for (int minute : new int[] {0, 8, 23}) {
            char at = (char) ('a' + minute);
            openIs(told(at + "m2;" + at + "m2", SHUT), minute, 0, 0);
            openIs(told(at + "m1;" + at + "m2", SHUT), minute, 1, 1);
            openIs(told(at + "m2;" + at + "m1", SHUT), minute, 2, 1);
            openIs(told(at + "m1;" + at + "m1", SHUT), minute, 3, 2);
            openIs(told(at + "m1;" + at + "m9;" + at + "m1", SHUT), minute, 3, 2);
            openIs(told(at + "m1", SHUT), minute, 1, 1);
            openIs(told(at + "m2", SHUT), minute, 0, 0);
        }
        openIs(new MiddleQueue(), 0, 0, 0);
        openIs(new MiddleQueue(), 23, 0, 0);
        about("OPEN: by MINUTE 23, of like ones the least");
        openIs(told("am2", only(23, 'f')), 22, 1, 1);
        openIs(told("am2", only(23, 'f')), 0, 1, 1);
        openIs(told("am3", only(23, 'f')), 0, 0, 0);
        openIs(told("am1", only(23, 'f')), 0, 0, 1);
        openIs(told("xm1", only(23, 'f')), 22, 0, 1);
        openIs(told("xm1", only(23, 't')), 23, 1, 1);
        openIs(told(times("am1", 12), "t".repeat(6) + SHUT.substring(6)), 23, 0, 12);
        openIs(told(times("am1", 12), "t".repeat(5) + SHUT.substring(5)), 23, 3, 12);
        openIs(told(times("am1", 12), "t".repeat(5) + "f" + SHUT.substring(6)), 5, 3, 12);
    }

    private static void openInPlace() {
        about("OPEN: in place of what is told");
        MiddleQueue x = told("am1;am1", "t" + SHUT.substring(1));
        openIs(x, 0, 3, 2);
        openIs(x, 1, 0, 2);
        due("window(0)", x.window(0), 3);
        due("window(1)", x.window(1), 0);
        due("count(5)", x.count(5), 2);
        openIs(told("am1;am2", "b" + SHUT.substring(1)), 0, 1, 1);
        openIs(told("am2;am1", "f" + SHUT.substring(1)), 0, 2, 1);
        // Of minutes that are not told, and of a text with a fault.
        openIs(told("xm2;xm1", ""), 23, 2, 1);
        openIs(told("xm2;xm1", "?"), 23, 2, 1);
        openIs(told("am2;am1", "?"), 0, 0, 2);
    }

    private static void letIs(MiddleQueue x, int minute, int which, int many) {
        due("let(" + minute + ", 0)", x.let(minute, 0), which);
        due("let(" + minute + ", 1)", x.let(minute, 1), many);
    }

    private static void let() {
        about("LET: the PERSON who had better be let to the FRONT, of like ones the least; NONE: no PEOPLE");
        letIs(new MiddleQueue(), 0, NONE, NONE);
        letIs(new MiddleQueue(), 23, NONE, NONE);
        letIs(told("am1;", ""), 5, NONE, NONE);
        due("BAD ahead of NONE", new MiddleQueue().let(-1, 0), BAD);
        due("BAD ahead of NONE", new MiddleQueue().let(24, 1), BAD);
        due("BAD ahead of NONE", new MiddleQueue().let(0, 2), BAD);
        due("BAD ahead of NONE", new MiddleQueue().let(0, -1), BAD);
        letIs(told("am1", SHUT), 0, 0, 0);
        letIs(told("am1", ""), 23, 0, 1);
        for (int p = 0; p < 12; p++) {
            // One alone has little enough.
            String people = (p == 0 ? "" : times("am2", p) + ";") + "am1" + (p == 11 ? "" : ";" + times("am2", 11 - p));
            letIs(told(people, only(23, 'f')), 23, p, 1);
            letIs(told(people, only(23, 'f')), 1, p, 1);
            // Nobody stands in minute 0 ahead of one's coming: the first one has 2 left, unless it is he.
            letIs(told(people, only(23, 'f')), 0, 0, p == 0 ? 1 : 0);
        }
        letIs(told(times("am1", 12), only(23, 'f')), 23, 0, 1);
        letIs(told("am2;am1;am1", only(23, 'f')), 23, 1, 1);
        // In the minute in which one comes one does not stand there yet.
        letIs(told("am2;bm1", only(1, 'f')), 1, 0, 0);
        letIs(told("am2;bm1", only(2, 'f')), 2, 1, 1);
        letIs(told("am2;bm1", only(1, 'f')), 2, 0, 0);
    }

    private static void letBehindAllEvents() {
        about("LET: behind all EVENTS of it");
        MiddleQueue x = told("am2;am2;am1", only(5, 'f'));
        x.event(BACK, 5, 2);
        x.event(FRONT, 5, 0);
        letIs(x, 5, 2, 1);
        letIs(x, 4, 0, 0);
        x.event(HOME, 5, 2);
        letIs(x, 5, 0, 0);
        // An event of a later minute is behind it, told earlier or not.
        x = told("am2;am2;am1", only(6, 'f'));
        x.event(FRONT, 6, 1);
        letIs(x, 5, 0, 0);
        letIs(x, 6, 2, 1);
        due("count(4)", x.count(4), 1);
        due("back()", x.back(), 0);
    }

    private static void letWhateverRoom() {
        about("LET: (whatever room)");
        MiddleQueue x = told("am2;am2;am1", only(5, 'f'));
        for (int many = 1; many <= 8; many++) {
            x.event(FRONT, 5, 1);
            letIs(x, 5, 2, 1);
            letIs(x, 6, 0, 0);
        }
        due("count(4)", x.count(4), 8);
        due("a ninth", x.event(0, 0, 0), FULL);
        due("stands(5, 0)", x.stands(5, 0), 1);
        due("count(5)", x.count(5), 0);
        due("never()", x.never(), 255);
    }

    private static void spareIs(MiddleQueue x, int many, int first, int second) {
        due("spare(NONE)", x.spare(NONE), many);
        due("spare(0)", x.spare(0), first);
        due("spare(1)", x.spare(1), second);
        due("spare(-2)", x.spare(-2), BAD);
        due("spare(2)", x.spare(2), BAD);
    }

    // Nobody but the first one has to be served: the front is open in minute 5 alone, the others go home.
    private static MiddleQueue first(int others) {
        MiddleQueue x = told("am1" + ";am9".repeat(others), only(5, 'f'));
        for (int p = 1; p <= others; p++) {
            x.event(HOME, 10, p);
        }
        return x;
    }

    private static void more(MiddleQueue x, int many, int kind, int minute, int person) {
        for (int e = 0; e < many; e++) {
            x.event(kind, minute, person);
        }
    }

    private static void spareNone() {
        about("SPARE: the fewest EVENTS (0 to 2): 0");
        spareIs(new MiddleQueue(), 0, NONE, NONE);
        spareIs(told("am1", ""), 0, NONE, NONE);
        spareIs(first(0), 0, NONE, NONE);
        spareIs(first(1), 0, NONE, NONE);
        MiddleQueue x = first(1);
        more(x, 7, BACK, 4, 1);
        spareIs(x, 0, NONE, NONE);
        about("SPARE: NONE: whatever EVENTS of these had not been");
        spareIs(told("am1", SHUT), NONE, NONE, NONE);
        x = told("am1", SHUT);
        more(x, 8, BACK, 4, 0);
        spareIs(x, NONE, NONE, NONE);
    }

    private static void spareOne() {
        about("SPARE: the fewest EVENTS (0 to 2): 1");
        for (int ahead = 0; ahead <= 6; ahead++) {
            MiddleQueue x = first(1);
            more(x, ahead, HOME, 20, 11);
            x.event(BACK, 4, 0);
            more(x, 6 - ahead, HOME, 20, 11);
            spareIs(x, 1, ahead + 1, NONE);
            due("count(4)", x.count(4), 8);
        }
        MiddleQueue x = told("am1;am9", only(5, 'f'));
        x.event(BACK, 4, 0);
        x.event(HOME, 10, 1);
        spareIs(x, 1, 0, NONE);
    }

    private static void spareTwo() {
        about("SPARE: the fewest EVENTS (0 to 2): 2, and no more");
        for (int ahead = 0; ahead <= 5; ahead++) {
            for (int between = 0; ahead + between <= 5; between++) {
                MiddleQueue x = first(1);
                more(x, ahead, HOME, 20, 11);
                x.event(BACK, 4, 0);
                more(x, between, HOME, 20, 11);
                x.event(BACK, 4, 0);
                more(x, 5 - ahead - between, HOME, 20, 11);
                spareIs(x, 2, ahead + 1, ahead + between + 2);
            }
        }
        MiddleQueue x = told("am1;am9", only(5, 'f'));
        x.event(BACK, 4, 0);
        x.event(BACK, 5, 0);
        x.event(HOME, 10, 1);
        spareIs(x, 2, 0, 1);
        x = first(1);
        more(x, 3, BACK, 4, 0);
        spareIs(x, NONE, NONE, NONE);
        more(x, 4, BACK, 4, 0);
        spareIs(x, NONE, NONE, NONE);
    }

    // The front is open in minutes 5 and 6: one may be ahead of the first one, and two may not.
    private static void spareTheLeastRow() {
        about("SPARE: of like ones the least row (each more than the one ahead)");
        MiddleQueue x = told("am1;am1;am1;am1", "nnnnnff" + SHUT.substring(7));
        x.event(FRONT, 4, 1);
        x.event(FRONT, 4, 2);
        x.event(HOME, 10, 1);
        x.event(HOME, 10, 2);
        x.event(HOME, 10, 3);
        spareIs(x, 1, 0, NONE);
        x.event(FRONT, 4, 3);
        spareIs(x, 2, 0, 1);
        x.event(FRONT, 4, 3);
        spareIs(x, 2, 0, 1);
        // The last one is let ahead of the first one twice: of the pairs (1, 3) alone leaves but one there.
        x = told("am1;am1;am1;am1", "nnnnnff" + SHUT.substring(7));
        x.event(FRONT, 4, 3);
        x.event(FRONT, 4, 1);
        x.event(FRONT, 4, 3);
        x.event(FRONT, 4, 2);
        x.event(HOME, 10, 1);
        x.event(HOME, 10, 2);
        x.event(HOME, 10, 3);
        spareIs(x, 2, 1, 3);
    }

    private static void spareBehindMinute23() {
        about("SPARE: so that nobody stands behind MINUTE 23");
        spareIs(told("xm1", ""), 0, NONE, NONE);
        spareIs(told("xm2", ""), NONE, NONE, NONE);
        spareIs(told("am1", only(23, 'f')), 0, NONE, NONE);
        MiddleQueue x = told("am9", SHUT);
        x.event(HOME, 23, 0);
        spareIs(x, 0, NONE, NONE);
        x = told("am9;xm9", SHUT);
        x.event(HOME, 23, 0);
        x.event(HOME, 23, 1);
        spareIs(x, NONE, NONE, NONE);
        x = told("am9;wm9", SHUT);
        x.event(HOME, 23, 0);
        x.event(HOME, 23, 1);
        spareIs(x, 0, NONE, NONE);
    }

    // Behind seven that do nothing: the second one has to be first in minute 5 to be served.
    private static void eighthEvent() {
        about("COME, OPEN, LET: all else is as it is told, the eighth of EVENTS, too");
        MiddleQueue x = told("am2;am1", only(5, 'f'));
        more(x, 7, HOME, 0, 0);
        comeIs(x, 1, NONE, NONE);
        openIs(x, 5, 2, 1);
        letIs(x, 4, 1, 1);
        x.event(FRONT, 5, 1);
        comeIs(x, 1, 4, 1);
        openIs(x, 5, 1, 1);
        letIs(x, 4, 0, 1);
        x.back();
        x.event(BACK, 5, 1);
        comeIs(x, 1, NONE, NONE);
        openIs(x, 5, 2, 1);
        letIs(x, 4, 0, 0);
        letIs(x, 5, 1, 1);
    }
}
