// What each promise of the document says, worked out by hand: ordinary inputs, edges, wrong inputs.
public final class PromiseTest extends Checks {
    public static void main(String[] args) {
        newObject();
        type();
        wipe();
        undo();
        fault();
        person();
        window();
        event();
        eventsInTheQueue();
        back();
        read();
        stands();
        many();
        at();
        apart();
        done();
        alfred();
        kettle();
        come();
        open();
        let();
        spare();
        seen();
        forget();
        never();
        was();
        ask();
        chance();
        decades();
        sheet();
        lose();
        put();
        get();
        copy();
        write();
        count();
        digest();
        end("every promise holds");
    }

    private static void newObject() {
        about("promise 1");
        MiddleQueue x = new MiddleQueue();
        for (int what = 0; what <= 8; what++) {
            due("count(" + what + ")", x.count(what), 0);
        }
        due("fault(0)", x.fault(0), NONE);
        due("fault(1)", x.fault(1), NONE);
        due("window(0)", x.window(0), 1);
        due("back()", x.back(), NOT);
        for (int s = 0; s < 4; s++) {
            due("lose(" + s + ")", x.lose(s), NULL);
        }
        due("NONE", MiddleQueue.NONE, -1);
        due("BAD", MiddleQueue.BAD, -2);
        due("NOT", MiddleQueue.NOT, -3);
        due("FULL", MiddleQueue.FULL, -4);
    }

    private static void type() {
        about("promise 2");
        MiddleQueue x = new MiddleQueue();
        due("type(-1, 97)", x.type(-1, 97), BAD);
        due("type(2, 97)", x.type(2, 97), BAD);
        due("type(0, -1)", x.type(0, -1), BAD);
        due("type(0, 256)", x.type(0, 256), BAD);
        due("count(2)", x.count(2), 0);
        due("type(0, 0)", x.type(0, 0), 1);
        due("type(0, 255)", x.type(0, 255), 2);
        for (int i = 3; i <= 47; i++) {
            due("type(0, 97)", x.type(0, 97), i);
        }
        due("the 48th", x.type(0, 97), FULL);
        due("BAD ahead of FULL", x.type(0, 256), BAD);
        due("count(2)", x.count(2), 47);
        for (int i = 1; i <= 24; i++) {
            due("type(1, 110)", x.type(1, 110), i);
        }
        due("the 25th", x.type(1, 110), FULL);
        due("BAD ahead of FULL", x.type(1, -1), BAD);
        due("count(3)", x.count(3), 24);
    }

    private static void wipe() {
        about("promise 3");
        MiddleQueue x = told("ap1;a", "nb");
        due("wipe(-1)", x.wipe(-1), BAD);
        due("wipe(2)", x.wipe(2), BAD);
        due("count(2)", x.count(2), 5);
        due("wipe(0)", x.wipe(0), 5);
        due("wipe(0)", x.wipe(0), 0);
        due("fault(0)", x.fault(0), NONE);
        due("count(3)", x.count(3), 2);
        due("wipe(1)", x.wipe(1), 2);
        due("window(0)", x.window(0), 1);
        say(x, 0, "cp9;bm2");
        say(x, 1, SHUT);
        queue(x, 2, 0, 1);
        x.wipe(0);
        queue(x, 2);
        say(x, 0, "cp3;cm1");
        queue(x, 1);
        queue(x, 2, 0, 1);
        due("person(0, 2)", x.person(0, 2), 3);
    }

    private static void undo() {
        about("promise 4");
        MiddleQueue x = told("ap2;", "n");
        due("undo(-1)", x.undo(-1), BAD);
        due("undo(2)", x.undo(2), BAD);
        due("count(0)", x.count(0), 0);
        due("undo(0)", x.undo(0), 3);
        due("count(0)", x.count(0), 1);
        due("window(0)", x.window(0), 0);
        due("undo(1)", x.undo(1), 0);
        due("window(0)", x.window(0), 1);
        due("undo(1)", x.undo(1), NOT);
        due("undo(0)", x.undo(0), 2);
        due("undo(0)", x.undo(0), 1);
        due("undo(0)", x.undo(0), 0);
        due("undo(0)", x.undo(0), NOT);
    }

    private static void fault() {
        about("promise 5");
        MiddleQueue x = new MiddleQueue();
        due("fault(-1)", x.fault(-1), BAD);
        due("fault(2)", x.fault(2), BAD);
        faultOf(0, "", NONE);
        faultOf(0, "a", 1);
        faultOf(0, "ap", 2);
        faultOf(0, "ap1", NONE);
        faultOf(0, "ap1;", 4);
        faultOf(0, "ap1;x", 5);
        faultOf(0, "ap1;xm9", NONE);
        faultOf(0, "`p1", 0);
        faultOf(0, "yp1", 0);
        faultOf(0, "Ap1", 0);
        faultOf(0, "aq1", 1);
        faultOf(0, "ap0", 2);
        faultOf(0, "ap:", 2);
        faultOf(0, "ap11", 3);
        faultOf(0, "ap1,bp1", 3);
        faultOf(0, "ap1;;", 4);
        faultOf(0, "aw1;zp1;b", 4);
        faultOf(0, "xm9;xm9;xm9;xm9;xm9;xm9;xm9;xm9;xm9;xm9;xm9;xm9", NONE);
        faultOf(1, "", NONE);
        faultOf(1, "nfbt", NONE);
        faultOf(1, "nfxt", 2);
        faultOf(1, "N", 0);
        faultOf(1, "nn;", 2);
        faultOf(1, SHUT, NONE);
    }

    private static void faultOf(int text, String bytes, int want) {
        MiddleQueue x = new MiddleQueue();
        say(x, text, bytes);
        due("fault of " + bytes, x.fault(text), want);
        due("count of " + bytes, x.count(text), want != NONE ? 0
                : text == 0 ? (bytes.length() + 1) / 4 : bytes.length());
    }

    private static void person() {
        about("promise 6");
        MiddleQueue x = told("ap3;xw9;cm1", "");
        int[][] want = {{0, 0, 3}, {23, 1, 9}, {2, 2, 1}};
        for (int p = 0; p < 3; p++) {
            for (int what = 0; what < 3; what++) {
                due("person(" + p + ", " + what + ")", x.person(p, what), want[p][what]);
            }
        }
        due("person(-1, 0)", x.person(-1, 0), BAD);
        due("person(3, 0)", x.person(3, 0), BAD);
        due("person(0, -1)", x.person(0, -1), BAD);
        due("person(0, 3)", x.person(0, 3), BAD);
        say(x, 0, ";");
        due("person(0, 0) of a fault", x.person(0, 0), BAD);
    }

    private static void window() {
        about("promise 7");
        MiddleQueue x = told("", "nfbt");
        for (int minute = 0; minute < 24; minute++) {
            due("window(" + minute + ")", x.window(minute), minute < 4 ? minute : 1);
        }
        due("window(-1)", x.window(-1), BAD);
        due("window(24)", x.window(24), BAD);
        say(x, 1, "?");
        due("window(0) of a fault", x.window(0), 1);
        due("window(2) of a fault", x.window(2), 1);
        due("window(23) of b", told("", SHUT.substring(1) + "b").window(23), 2);
    }

    private static void event() {
        about("promise 8");
        MiddleQueue x = new MiddleQueue();
        int[][] bad = {{-1, 0, 0}, {3, 0, 0}, {0, -1, 0}, {0, 24, 0}, {0, 0, -1}, {0, 0, 12}};
        for (int[] row : bad) {
            due("a bad event", x.event(row[0], row[1], row[2]), BAD);
        }
        due("count(4)", x.count(4), 0);
        due("event(0, 0, 0)", x.event(0, 0, 0), 1);
        due("event(2, 23, 11)", x.event(2, 23, 11), 2);
        for (int i = 3; i <= 8; i++) {
            due("event(1, 5, 5)", x.event(1, 5, 5), i);
        }
        due("the ninth", x.event(1, 5, 5), FULL);
        due("BAD ahead of FULL", x.event(3, 5, 5), BAD);
        due("count(4)", x.count(4), 8);
    }

    private static void eventsInTheQueue() {
        about("promise 8");
        MiddleQueue x = told("ap9;ap9;ap9", SHUT);
        queue(x, 0, 1, 2, 0);
        x.event(1, 1, 0);
        queue(x, 0, 1, 2, 0);
        queue(x, 1, 0, 1, 2);
        x.event(2, 1, 1);
        queue(x, 1, 0, 2, 1);
        x.event(0, 2, 2);
        queue(x, 2, 0, 1);
        queue(x, 23, 0, 1);
        x.event(1, 3, 2);
        queue(x, 3, 0, 1);
        // In the minute in which one comes the events are ahead of that.
        x.event(0, 0, 0);
        queue(x, 0, 1, 2, 0);
        // By their numbers, not by persons: to the front, then home.
        x.event(1, 4, 1);
        x.event(0, 4, 0);
        queue(x, 4, 1);
        due("at(4, 0, 0)", x.at(4, 0, 0), 3);
        // Of one who is not there at all.
        x.event(1, 5, 11);
        queue(x, 5, 1);
    }

    private static void back() {
        about("promise 9");
        MiddleQueue x = told("ap9;ap9;ap9", SHUT);
        due("back()", x.back(), NOT);
        x.event(1, 1, 0);
        x.event(1, 1, 2);
        queue(x, 1, 2, 0, 1);
        due("back()", x.back(), 1);
        queue(x, 1, 0, 1, 2);
        due("event again", x.event(2, 1, 0), 2);
        queue(x, 1, 1, 2, 0);
        due("back()", x.back(), 1);
        due("in another minute", x.event(1, 3, 2), 2);
        queue(x, 1, 0, 1, 2);
        queue(x, 3, 2, 0, 1);
        due("back()", x.back(), 1);
        queue(x, 3, 0, 1, 2);
        due("back()", x.back(), 0);
        queue(x, 1, 1, 2, 0);
        due("back()", x.back(), NOT);
    }

    private static void read() {
        about("promise 10");
        MiddleQueue x = told("ap9;ap9;ap9", SHUT);
        due("read(-1)", x.read(-1), BAD);
        due("read(4)", x.read(4), BAD);
        due("count(8)", x.count(8), 0);
        due("read(0)", x.read(0), NULL);
        due("count(8)", x.count(8), 1);
        fill(x, 0, 0, 1, 1, 0, 0, 2);
        due("read(0)", x.read(0), 1);
        queue(x, 2, 0, 1, 2);
        fill(x, 1, 2, 0, 2, 2, 1, 24, 0, 0, 3, 0);
        due("read(1) to a bad one", x.read(1), 1);
        queue(x, 3, 0, 1);
        due("count(4)", x.count(4), 2);
        fill(x, 2, 1);
        due("read(2)", x.read(2), 0);
        fill(x, 2, 1, 0, 0);
        due("read(2)", x.read(2), 0);
        x.sheet(3, 0, 60);
        due("read(3) to the eighth", x.read(3), 6);
        due("count(4)", x.count(4), 8);
        due("read(3) when full", x.read(3), 0);
    }

    private static void stands() {
        about("promise 11");
        // Half of those there, cut; a third of them, cut; behind all.
        MiddleQueue x = told("ap9;ap9;ap9;aw9;am9;bp9;bw9;bw9", SHUT);
        queue(x, 0, 1, 3, 2, 0, 4);
        queue(x, 1, 1, 3, 7, 6, 5, 2, 0, 4);
        due("stands(-1, 0)", x.stands(-1, 0), BAD);
        due("stands(24, 0)", x.stands(24, 0), BAD);
        due("stands(0, -1)", x.stands(0, -1), BAD);
        due("stands(0, 12)", x.stands(0, 12), BAD);
        queue(told("bp9", ""), 0);
        MiddleQueue full = told("am9;am9;am9;am9;am9;am9;am9;am9;am9;am9;am9;am9", SHUT);
        queue(full, 0, 0, 1, 2, 3, 4, 5, 6, 7, 8, 9, 10, 11);
        full.event(2, 1, 0);
        queue(full, 1, 1, 2, 3, 4, 5, 6, 7, 8, 9, 10, 11, 0);
        full.event(1, 2, 11);
        queue(full, 2, 11, 1, 2, 3, 4, 5, 6, 7, 8, 9, 10, 0);
    }

    private static void many() {
        about("promise 12");
        MiddleQueue x = told("ap1;bp1;bp2", "nft");
        due("many(0)", x.many(0), 1);
        due("many(1)", x.many(1), 2);
        due("many(2)", x.many(2), 1);
        due("many(3)", x.many(3), 0);
        due("many(-1)", x.many(-1), BAD);
        due("many(24)", x.many(24), BAD);
    }

    private static void at() {
        about("promise 13");
        MiddleQueue x = told("ap2;ap1;ap3;bm4", "tttn");
        x.event(0, 3, 3);
        int[][][] want = {
            {{1, 1, 1}, {2, NONE, 0}, {1, 0, 3}, {0, NONE, 4}},
            {{1, 1, 1}, {2, NONE, 0}, {1, 0, 2}, {1, 2, 3}},
            {{1, 1, 1}, {2, NONE, 0}, {1, 0, 1}, {1, 2, 2}},
            {{1, 1, 1}, {2, NONE, 0}, {1, 0, 1}, {3, NONE, 2}},
            {{1, 0, 1}, {2, NONE, 0}, {2, NONE, 0}, {3, NONE, 2}},
            {{2, NONE, 0}, {2, NONE, 0}, {2, NONE, 0}, {3, NONE, 2}}};
        for (int minute = 0; minute < want.length; minute++) {
            for (int p = 0; p < 4; p++) {
                for (int what = 0; what < 3; what++) {
                    due("at(" + minute + ", " + p + ", " + what + ")", x.at(minute, p, what), want[minute][p][what]);
                }
            }
        }
        due("at(-1, 0, 0)", x.at(-1, 0, 0), BAD);
        due("at(24, 0, 0)", x.at(24, 0, 0), BAD);
        due("at(0, -1, 0)", x.at(0, -1, 0), BAD);
        due("at(0, 4, 0)", x.at(0, 4, 0), BAD);
        due("at(0, 0, -1)", x.at(0, 0, -1), BAD);
        due("at(0, 0, 3)", x.at(0, 0, 3), BAD);
        // The only one counts once, with the two windows open; by the back alone it counts, too.
        due("both, one there", told("ap2", "tn").at(0, 0, 2), 1);
        due("back, one there", told("ap1", "bn").at(0, 0, 0), 2);
        // First and last as they stand ahead of both: the second one of two is last, though the first goes.
        due("both, two there", told("ap2;am2", "tn").at(0, 1, 2), 1);
    }

    private static void apart() {
        about("promise 14");
        MiddleQueue x = told("ap9;ap9;ap9;bp9", SHUT);
        due("apart(0, 0, 1)", x.apart(0, 0, 1), 1);
        due("apart(0, 1, 0)", x.apart(0, 1, 0), 1);
        due("apart(0, 1, 2)", x.apart(0, 1, 2), 0);
        due("apart(1, 1, 0)", x.apart(1, 1, 0), 2);
        due("apart(0, 0, 3)", x.apart(0, 0, 3), NONE);
        due("apart(0, 3, 0)", x.apart(0, 3, 0), NONE);
        due("apart(0, 1, 1)", x.apart(0, 1, 1), BAD);
        due("apart(-1, 0, 1)", x.apart(-1, 0, 1), BAD);
        due("apart(24, 0, 1)", x.apart(24, 0, 1), BAD);
        due("apart(0, -1, 1)", x.apart(0, -1, 1), BAD);
        due("apart(0, 4, 1)", x.apart(0, 4, 1), BAD);
        due("apart(0, 1, -1)", x.apart(0, 1, -1), BAD);
        due("apart(0, 1, 4)", x.apart(0, 1, 4), BAD);
    }

    private static void done() {
        about("promise 15");
        MiddleQueue x = told("ap3", "");
        due("done(0, 0)", x.done(0, 0), 2);
        due("done(0, 1)", x.done(0, 1), 2);
        due("done(0, 2)", x.done(0, 2), 0);
        due("done(-1, 0)", x.done(-1, 0), BAD);
        due("done(1, 0)", x.done(1, 0), BAD);
        due("done(0, -1)", x.done(0, -1), BAD);
        due("done(0, 3)", x.done(0, 3), BAD);
        MiddleQueue y = told("ap9;ap9;ap9", SHUT);
        y.event(1, 1, 0);
        y.event(2, 1, 1);
        y.event(0, 2, 2);
        due("done(1, 0)", y.done(1, 0), NONE);
        due("done(1, 1)", y.done(1, 1), 24);
        due("done(1, 2)", y.done(1, 2), 2);
        due("done(2, 0)", y.done(2, 0), NONE);
        due("done(2, 1)", y.done(2, 1), 2);
        due("done(2, 2)", y.done(2, 2), 0);
        due("done(0, 2)", y.done(0, 2), 1);
    }

    private static void alfred() {
        about("promise 16");
        MiddleQueue x = told("ap9;am9", SHUT);
        due("alfred(0)", x.alfred(0), 0);
        due("alfred(1)", x.alfred(1), 24);
        x.event(1, 12, 1);
        due("alfred(0) of like ones", x.alfred(0), 0);
        due("alfred(1) of like ones", x.alfred(1), 12);
        x.back();
        x.event(1, 11, 1);
        due("alfred(0)", x.alfred(0), 1);
        due("alfred(1)", x.alfred(1), 13);
        MiddleQueue once = told("ap2", "");
        due("alfred(0) of one minute", once.alfred(0), 0);
        due("alfred(1) of one minute", once.alfred(1), 1);
        due("alfred(-1)", x.alfred(-1), BAD);
        due("alfred(2)", x.alfred(2), BAD);
        MiddleQueue none = told("ap1", "");
        due("alfred(0) of nobody", none.alfred(0), NONE);
        due("alfred(1) of nobody", none.alfred(1), NONE);
    }

    private static void kettle() {
        about("promise 17");
        MiddleQueue x = told("ap9;ap9;ap9", SHUT);
        due("kettle()", x.kettle(), 7);
        x.event(0, 23, 1);
        due("kettle()", x.kettle(), 5);
        due("kettle() of nobody", new MiddleQueue().kettle(), 0);
        due("kettle() of the last minute", told("xp2", "").kettle(), 1);
    }

    private static void come() {
        about("promise 18");
        MiddleQueue x = told("cp9", "");
        due("come(0, 0)", x.come(0, 0), 0);
        due("come(0, 1)", x.come(0, 1), 8);
        due("person(0, 0)", x.person(0, 0), 2);
        due("many(0)", x.many(0), 0);
        MiddleQueue late = told("ap9", "nn");
        due("come(0, 0)", late.come(0, 0), 2);
        due("come(0, 1)", late.come(0, 1), 8);
        MiddleQueue never = told("ap9", SHUT);
        due("come(0, 0)", never.come(0, 0), NONE);
        due("come(0, 1)", never.come(0, 1), NONE);
        due("come(-1, 0)", x.come(-1, 0), BAD);
        due("come(1, 0)", x.come(1, 0), BAD);
        due("come(0, -1)", x.come(0, -1), BAD);
        due("come(0, 2)", x.come(0, 2), BAD);
        // To have gone home early is to have stood less, but not to be served.
        MiddleQueue home = told("ap2", "nn");
        home.event(0, 1, 0);
        due("come(0, 0)", home.come(0, 0), 2);
        due("come(0, 1)", home.come(0, 1), 1);
    }

    private static void open() {
        about("promise 19");
        MiddleQueue x = told("xp1", "");
        due("open(23, 0)", x.open(23, 0), 1);
        due("open(23, 1)", x.open(23, 1), 1);
        due("open(22, 0)", x.open(22, 0), 0);
        due("open(22, 1)", x.open(22, 1), 1);
        MiddleQueue two = told("xp1;xp1", SHUT);
        due("open(23, 0)", two.open(23, 0), 3);
        due("open(23, 1)", two.open(23, 1), 2);
        due("window(23)", two.window(23), 0);
        due("open(0, 0)", two.open(0, 0), 0);
        due("open(0, 1)", two.open(0, 1), 0);
        MiddleQueue last = told("xp2;xm1", SHUT);
        due("open(23, 0)", last.open(23, 0), 2);
        due("open(23, 1)", last.open(23, 1), 1);
        due("open(-1, 0)", x.open(-1, 0), BAD);
        due("open(24, 0)", x.open(24, 0), BAD);
        due("open(0, -1)", x.open(0, -1), BAD);
        due("open(0, 2)", x.open(0, 2), BAD);
        due("open(0, 0)", told("ap1", SHUT).open(0, 0), 1);
        due("open of nobody", new MiddleQueue().open(0, 0), 0);
        due("open of nobody", new MiddleQueue().open(0, 1), 0);
    }

    private static void let() {
        about("promise 20");
        MiddleQueue x = told("ap2;am1", SHUT.substring(1));
        due("let(23, 0)", x.let(23, 0), 1);
        due("let(23, 1)", x.let(23, 1), 1);
        // Whatever room, and behind all events of the minute.
        for (int i = 0; i < 8; i++) {
            x.event(1, 23, 0);
        }
        due("let(23, 0)", x.let(23, 0), 1);
        due("let(23, 1)", x.let(23, 1), 1);
        due("count(4)", x.count(4), 8);
        MiddleQueue last = told("ap2;am2;am1", SHUT.substring(1));
        due("let(23, 0)", last.let(23, 0), 2);
        due("let(23, 1)", last.let(23, 1), 1);
        due("let(5, 0)", x.let(5, 0), 0);
        due("let(5, 1)", x.let(5, 1), 0);
        due("let(-1, 0)", x.let(-1, 0), BAD);
        due("let(24, 0)", x.let(24, 0), BAD);
        due("let(0, -1)", x.let(0, -1), BAD);
        due("let(0, 2)", x.let(0, 2), BAD);
        due("let of nobody", new MiddleQueue().let(0, 0), NONE);
        due("let of nobody", new MiddleQueue().let(0, 1), NONE);
        due("BAD ahead of NONE", new MiddleQueue().let(24, 0), BAD);
    }

    private static void spare() {
        about("promise 21");
        // The front is open in minute 5 alone; the mannerly one goes home at 10.
        MiddleQueue x = told("ap1;am9", "nnnnnfnnnnnnnnnnnnnnnnnn");
        spareIs(x, NONE, NONE, NONE);
        x.event(0, 10, 1);
        spareIs(x, 0, NONE, NONE);
        x.event(2, 5, 0);
        spareIs(x, 1, 1, NONE);
        x.event(2, 5, 0);
        spareIs(x, 2, 1, 2);
        due("count(4)", x.count(4), 3);
        x.event(2, 5, 0);
        spareIs(x, NONE, NONE, NONE);
        due("spare(-2)", x.spare(-2), BAD);
        due("spare(2)", x.spare(2), BAD);
        // Of four the last one alone stands in the way.
        MiddleQueue y = told("ap1;am9", "nnnnnfnnnnnnnnnnnnnnnnnn");
        y.event(1, 4, 1);
        y.event(1, 4, 0);
        y.event(0, 10, 1);
        y.event(2, 5, 0);
        spareIs(y, 1, 3, NONE);
        // The first one, and the first two.
        MiddleQueue z = told("ap1;am9", "nnnnnfnnnnnnnnnnnnnnnnnn");
        z.event(2, 5, 0);
        z.event(0, 10, 1);
        spareIs(z, 1, 0, NONE);
        due("many(23)", z.many(23), 1);
        z.back();
        z.event(2, 5, 0);
        z.event(0, 10, 1);
        spareIs(z, 2, 0, 1);
        // It is behind minute 23 that nobody may stand, whoever stood behind the one ahead.
        MiddleQueue late = told("xp1", SHUT.substring(1) + "f");
        spareIs(late, 0, NONE, NONE);
        late.event(0, 23, 0);
        spareIs(late, 0, NONE, NONE);
        spareIs(told("xp2", ""), NONE, NONE, NONE);
        spareIs(new MiddleQueue(), 0, NONE, NONE);
    }

    private static void spareIs(MiddleQueue x, int many, int first, int second) {
        due("spare(-1)", x.spare(NONE), many);
        due("spare(0)", x.spare(0), first);
        due("spare(1)", x.spare(1), second);
    }

    private static void seen() {
        about("promise 22");
        MiddleQueue x = new MiddleQueue();
        int[][] bad = {{-1, 0, 0}, {24, 0, 0}, {0, -1, 0}, {0, 12, 0}, {0, 0, -1}, {0, 0, 13}};
        for (int[] row : bad) {
            due("a bad seen", x.seen(row[0], row[1], row[2]), BAD);
        }
        due("count(7)", x.count(7), 0);
        due("seen(23, 11, 12)", x.seen(23, 11, 12), 1);
        due("seen(0, 0, 0)", x.seen(0, 0, 0), 2);
        for (int i = 3; i <= 8; i++) {
            due("seen(0, 0, 11)", x.seen(0, 0, 11), i);
        }
        due("the ninth", x.seen(0, 0, 0), FULL);
        due("BAD ahead of FULL", x.seen(0, 0, 13), BAD);
        due("count(7)", x.count(7), 8);
    }

    private static void forget() {
        about("promise 23");
        MiddleQueue x = told("ap9", "");
        due("forget()", x.forget(), 0);
        x.seen(0, 0, 5);
        x.seen(0, 1, 0);
        due("was(0, 0)", x.was(0, 0), 0);
        due("forget()", x.forget(), 2);
        due("count(7)", x.count(7), 0);
        due("was(0, 0)", x.was(0, 0), 7);
        due("forget()", x.forget(), 0);
    }

    private static void never() {
        about("promise 24");
        MiddleQueue x = told("ap9;ap9;ap9", SHUT);
        due("never()", x.never(), 0);
        x.event(1, 1, 0);
        x.event(0, 3, 2);
        due("never() with nothing seen", x.never(), 3);
        x.seen(1, 0, 1);
        due("never()", x.never(), 1);
        x.forget();
        x.seen(1, 0, 0);
        due("never()", x.never(), 2);
        x.seen(4, 2, 12);
        due("never()", x.never(), 0);
        x.forget();
        x.seen(23, 2, 12);
        due("never()", x.never(), 1);
        x.seen(0, 0, 11);
        due("never() with one who is not there", x.never(), 0);
    }

    private static void was() {
        about("promise 25");
        MiddleQueue x = told("ap9;ap9", SHUT);
        due("was(1, 0)", x.was(1, 0), 7);
        due("was(1, 1)", x.was(1, 1), 1022);
        x.seen(0, 0, 1);
        due("was(1, 0)", x.was(1, 0), 3);
        x.forget();
        x.seen(0, 0, 0);
        due("was(1, 0)", x.was(1, 0), 4);
        due("was(1, 1)", x.was(1, 1), 0);
        due("person(1, 1)", x.person(1, 1), 0);
        MiddleQueue y = told("ap3", "");
        y.seen(4, 0, 0);
        due("was(0, 1)", y.was(0, 1), 960);
        y.seen(6, 0, 12);
        due("was(0, 1)", y.was(0, 1), 192);
        due("was(0, 0)", y.was(0, 0), 0);
        due("person(0, 2)", y.person(0, 2), 3);
        due("was(-1, 0)", y.was(-1, 0), BAD);
        due("was(1, 0)", y.was(1, 0), BAD);
        due("was(0, -1)", y.was(0, -1), BAD);
        due("was(0, 2)", y.was(0, 2), BAD);
        // The first of them may come behind the second one.
        MiddleQueue late = told("bp9;ap9", SHUT);
        late.seen(1, 0, 1);
        due("was(0, 0)", late.was(0, 0), 4);
        // A third and a half part company where three stand there already.
        MiddleQueue z = told("am9;am9;am9;am9;am9;am9;ap9", SHUT);
        z.seen(0, 2, 6);
        due("was(6, 0)", z.was(6, 0), 2);
    }

    private static void ask() {
        about("promise 26");
        MiddleQueue x = told("ap3", "");
        due("ask(0)", x.ask(0), 3);
        x.seen(4, 0, 0);
        // 6, 7, 8 and 9 are left: behind minute 6 two of them stand, and two do not.
        due("ask(0)", x.ask(0), 6);
        x.seen(5, 0, 12);
        due("ask(0) of one", x.ask(0), 0);
        x.seen(0, 5, 0);
        due("ask(0) of none", x.ask(0), 0);
        due("ask(-1)", x.ask(-1), BAD);
        due("ask(1)", x.ask(1), BAD);
        due("ask of nobody", new MiddleQueue().ask(0), BAD);
        // All places count: behind minutes 0 on the first one stands alike, the parcels of the last one tell.
        due("ask(1)", told("ap9;am9", "bbbbbbbbbbbb").ask(1), 3);
    }

    private static void chanceIs(MiddleQueue x, int c, int person, long above, long below) {
        due("chance(" + c + ", " + person + ", 0)", x.chance(c, person, 0), above);
        due("chance(" + c + ", " + person + ", 1)", x.chance(c, person, 1), below);
    }

    private static void chance() {
        about("promise 27");
        MiddleQueue x = told("ap1;xm9", "n");
        chanceIs(x, 5, 0, 1, 1);
        chanceIs(x, 5, 1, 0, 1);
        x.event(0, 1, 0);
        chanceIs(x, 4, 0, 3, 4);
        chanceIs(x, 5, 0, 11, 16);
        chanceIs(x, 0, 0, 1, 1);
        chanceIs(x, 16, 0, 0, 1);
        chanceIs(x, 4, 1, 0, 1);
        x.event(0, 1, 0);
        chanceIs(x, 4, 0, 9, 16);
        for (int i = 0; i < 6; i++) {
            x.event(0, 1, 0);
        }
        chanceIs(x, 1, 0, 2562890625L, 4294967296L);
        chanceIs(x, 8, 0, 1, 256);
        long bad = LONG_BAD;
        due("chance(-1, 0, 0)", x.chance(-1, 0, 0), bad);
        due("chance(17, 0, 0)", x.chance(17, 0, 0), bad);
        due("chance(4, -1, 0)", x.chance(4, -1, 0), bad);
        due("chance(4, 2, 0)", x.chance(4, 2, 0), bad);
        due("chance(4, 0, -1)", x.chance(4, 0, -1), bad);
        due("chance(4, 0, 2)", x.chance(4, 0, 2), bad);
        x.back();
        chanceIs(x, 1, 0, 170859375L, 268435456L);
        say(x, 1, "n");
        x.type(0, ';');
        due("chance of nobody", x.chance(4, 0, 0), bad);
        x.undo(0);
        say(x, 1, SHUT.substring(2));
        chanceIs(x, 4, 0, 0, 1);
    }

    private static void decades() {
        about("promise 28");
        String people = "ap3;bw2;cm4;dp9;ep1;fp2;gw3";
        String windows = "nnftbnftbt";
        int[] seeds = {0, 1, 2, 7, -1, 123456789, Integer.MAX_VALUE, Integer.MIN_VALUE};
        for (int seed : seeds) {
            for (int n = 0; n <= 8; n++) {
                MiddleQueue x = told(people, windows);
                x.event(0, 1, 0);
                MiddleQueue y = told(people, windows);
                int at = seed;
                for (int e = 0; e < n; e++) {
                    int[] drawn = new int[3];
                    int[] of = {3, 24, 7};
                    for (int k = 0; k < 3; k++) {
                        at = 1103515245 * at + 12345;
                        drawn[k] = (at >>> 16) % of[k];
                    }
                    y.event(drawn[0], drawn[1], drawn[2]);
                }
                due("decades(" + seed + ", " + n + ", 0)", x.decades(seed, n, 0), y.count(5));
                due("decades(" + seed + ", " + n + ", 1)", x.decades(seed, n, 1), y.count(6));
                due("count(4)", x.count(4), 1);
            }
        }
        MiddleQueue x = told("ap3", "");
        due("decades(1, -1, 0)", x.decades(1, -1, 0), BAD);
        due("decades(1, 9, 0)", x.decades(1, 9, 0), BAD);
        due("decades(1, 0, -1)", x.decades(1, 0, -1), BAD);
        due("decades(1, 0, 2)", x.decades(1, 0, 2), BAD);
        // In place of those told, however many these are.
        due("decades(1, 0, 0)", told("ap9;am9;am9", "").decades(1, 0, 0), 2);
        due("decades(1, 0, 1)", told("ap9;am9;am9", "").decades(1, 0, 1), 1);
        MiddleQueue full = told("ap9;am9", "");
        for (int i = 0; i < 8; i++) {
            full.event(0, 1, i % 2);
        }
        due("decades(5, 0, 0)", full.decades(5, 0, 0), 2);
        due("decades(5, 8, 0)", full.decades(5, 8, 0), told("ap9;am9", "").decades(5, 8, 0));
        due("count(5)", full.count(5), 0);
        due("decades of nobody", new MiddleQueue().decades(1, 8, 0), 0);
        due("decades of nobody", new MiddleQueue().decades(1, 8, 1), 0);
    }

    private static void sheet() {
        about("promise 29");
        MiddleQueue x = new MiddleQueue();
        due("sheet(-1, 0, 1)", x.sheet(-1, 0, 1), BAD);
        due("sheet(4, 0, 1)", x.sheet(4, 0, 1), BAD);
        due("sheet(0, -1, 1)", x.sheet(0, -1, 1), BAD);
        due("sheet(0, 3, 1)", x.sheet(0, 3, 1), BAD);
        due("sheet(0, 0, 61)", x.sheet(0, 0, 61), BAD);
        due("BAD ahead of SIZE", x.sheet(4, 0, -1), BAD);
        due("count(8)", x.count(8), 0);
        due("sheet(0, 0, -1)", x.sheet(0, 0, -1), SIZE);
        due("count(8)", x.count(8), 5);
        due("lose(0)", x.lose(0), NULL);
        due("sheet(0, 0, 0)", x.sheet(0, 0, 0), 0);
        due("sheet(3, 2, 60)", x.sheet(3, 2, 60), 60);
        due("get(3, 2, 59)", x.get(3, 2, 59), 0);
        x.put(3, 2, 5, 77);
        due("sheet(3, 2, -5)", x.sheet(3, 2, -5), SIZE);
        due("get(3, 2, 5)", x.get(3, 2, 5), 77);
        due("sheet(3, 1, 6)", x.sheet(3, 1, 6), 6);
        due("get(3, 1, 5)", x.get(3, 1, 5), 0);
        due("get(3, 1, 6)", x.get(3, 1, 6), LEAST);
        due("lose(3)", x.lose(3), 6);
    }

    private static void lose() {
        about("promise 30");
        MiddleQueue x = new MiddleQueue();
        due("lose(-1)", x.lose(-1), BAD);
        due("lose(4)", x.lose(4), BAD);
        due("count(8)", x.count(8), 0);
        due("lose(2)", x.lose(2), NULL);
        due("count(8)", x.count(8), 1);
        x.sheet(2, 1, 7);
        due("lose(2)", x.lose(2), 7);
        due("lose(2)", x.lose(2), NULL);
        due("put", x.put(2, 1, 0, 1), NULL);
        x.sheet(2, 2, 4);
        x.put(2, 2, 3, 5);
        x.lose(2);
        x.sheet(2, 2, 4);
        due("a new row", x.get(2, 2, 3), 0);
    }

    private static void put() {
        about("promise 31");
        MiddleQueue x = new MiddleQueue();
        due("put(-1, 0, 0, 0)", x.put(-1, 0, 0, 0), BAD);
        due("put(4, 0, 0, 0)", x.put(4, 0, 0, 0), BAD);
        due("put(0, -1, 0, 0)", x.put(0, -1, 0, 0), BAD);
        due("put(0, 3, 0, 0)", x.put(0, 3, 0, 0), BAD);
        due("count(8)", x.count(8), 0);
        due("put(0, 0, 0, 0)", x.put(0, 0, 0, 0), NULL);
        due("count(8)", x.count(8), 1);
        x.sheet(0, 0, 2);
        x.sheet(1, 1, 2);
        x.sheet(2, 2, 2);
        due("CAST ahead of INDEX", x.put(0, 1, 9, 0), CAST);
        due("count(8)", x.count(8), 3);
        due("put(0, 0, 2, 0)", x.put(0, 0, 2, 0), INDEX);
        due("put(0, 0, -1, 0)", x.put(0, 0, -1, 0), INDEX);
        due("count(8)", x.count(8), 2);
        int[] values = {0, 127, 128, 255, 256, -128, -129, 32767, 32768, -32769, 65536, 0x12345678, Integer.MIN_VALUE};
        for (int v : values) {
            due("put byte", x.put(0, 0, 1, v), 1);
            due("byte of " + v, x.get(0, 0, 1), (byte) v);
            due("put short", x.put(1, 1, 1, v), 1);
            due("short of " + v, x.get(1, 1, 1), (short) v);
            due("put int", x.put(2, 2, 1, v), 1);
            due("int of " + v, x.get(2, 2, 1), v);
        }
        due("get(0, 0, 0)", x.get(0, 0, 0), 0);
        due("count(8)", x.count(8), 2);
    }

    private static void get() {
        about("promise 32");
        MiddleQueue x = new MiddleQueue();
        due("get(-1, 0, 0)", x.get(-1, 0, 0), LEAST);
        due("get(4, 0, 0)", x.get(4, 0, 0), LEAST);
        due("get(0, -1, 0)", x.get(0, -1, 0), LEAST);
        due("get(0, 3, 0)", x.get(0, 3, 0), LEAST);
        due("count(8)", x.count(8), 0);
        due("get(0, 0, 0)", x.get(0, 0, 0), LEAST);
        due("count(8)", x.count(8), 1);
        x.sheet(0, 0, 1);
        due("get(0, 2, 0)", x.get(0, 2, 0), LEAST);
        due("count(8)", x.count(8), 3);
        due("get(0, 0, 1)", x.get(0, 0, 1), LEAST);
        due("count(8)", x.count(8), 2);
        due("get(0, 0, -1)", x.get(0, 0, -1), LEAST);
        due("get(0, 1, -1)", x.get(0, 1, -1), LEAST);
        due("CAST ahead of INDEX", x.count(8), 3);
        x.put(0, 0, 0, -7);
        due("get(0, 0, 0)", x.get(0, 0, 0), -7);
        due("count(8)", x.count(8), 3);
    }

    private static void copy() {
        about("promise 33");
        int most = Integer.MAX_VALUE;
        MiddleQueue x = new MiddleQueue();
        due("copy(-1, ..)", x.copy(-1, 0, 0, 0, 0), BAD);
        due("copy(4, ..)", x.copy(4, 0, 0, 0, 0), BAD);
        due("copy(.., -1, ..)", x.copy(0, 0, -1, 0, 0), BAD);
        due("copy(.., 4, ..)", x.copy(0, 0, 4, 0, 0), BAD);
        due("count(8)", x.count(8), 0);
        fill(x, 0, 2, 10, 11, 12, 13, 14);
        due("NULL of t", x.copy(0, 0, 1, 0, 0), NULL);
        due("NULL of s", x.copy(1, 0, 0, 0, 0), NULL);
        due("count(8)", x.count(8), 1);
        x.sheet(1, 1, 3);
        due("STORE ahead of INDEX", x.copy(0, -1, 1, 0, 1), STORE);
        due("count(8)", x.count(8), 4);
        x.sheet(1, 2, 3);
        int[][] past = {{-1, 0, 1}, {0, -1, 1}, {0, 0, -1}, {0, 0, 4}, {3, 0, 3}, {0, 2, 2}, {6, 0, 0}, {0, 4, 0},
            {most, 0, 0}, {1, 0, most}, {most, most, most}, {0, 1, most}, {Integer.MIN_VALUE, 0, 1}};
        for (int[] row : past) {
            due("copy from " + row[0] + " to " + row[1] + " of " + row[2],
                    x.copy(0, row[0], 1, row[1], row[2]), INDEX);
        }
        due("count(8)", x.count(8), 2);
        due("nothing, at the ends", x.copy(0, 5, 1, 3, 0), 1);
        items(x, 1, 2, 0, 0, 0);
        due("copy(0, 3, 1, 1, 2)", x.copy(0, 3, 1, 1, 2), 1);
        items(x, 1, 2, 0, 13, 14);
        items(x, 0, 2, 10, 11, 12, 13, 14);
        due("upon itself, up", x.copy(0, 0, 0, 1, 4), 1);
        items(x, 0, 2, 10, 10, 11, 12, 13);
        due("upon itself, down", x.copy(0, 1, 0, 0, 4), 1);
        items(x, 0, 2, 10, 11, 12, 13, 13);
        due("count(8)", x.count(8), 2);
    }

    private static void write() {
        about("promise 34");
        MiddleQueue x = told("ap9;ap9;ap9", SHUT);
        due("write(-1, 0)", x.write(-1, 0), BAD);
        due("write(24, 0)", x.write(24, 0), BAD);
        due("write(0, -1)", x.write(0, -1), BAD);
        due("write(0, 4)", x.write(0, 4), BAD);
        due("BAD ahead of NULL", x.write(24, 3), BAD);
        due("count(8)", x.count(8), 0);
        due("write(0, 0)", x.write(0, 0), NULL);
        due("count(8)", x.count(8), 1);
        x.event(0, 1, 2);
        fill(x, 0, 2, 9, 9, 9, 9, 9);
        due("write(0, 0)", x.write(0, 0), 5);
        items(x, 0, 2, 1, 2, 0, -1, -1);
        due("write(1, 0)", x.write(1, 0), 5);
        items(x, 0, 2, 1, 0, -1, -1, -1);
        fill(x, 0, 2, 9, 9);
        due("write(0, 0)", x.write(0, 0), 2);
        items(x, 0, 2, 1, 2);
        x.sheet(0, 2, 0);
        due("write to none", x.write(0, 0), 0);
        fill(x, 1, 2, 8, 8, 8, 8, 8, 8, 8, 8, 8, 8, 8, 8, 8, 8);
        due("write to 14", x.write(0, 1), 12);
        items(x, 1, 2, 1, 2, 0, -1, -1, -1, -1, -1, -1, -1, -1, -1, 8, 8);
        x.sheet(2, 0, 12);
        due("write to bytes", x.write(0, 2), 12);
        due("a byte's sign", x.get(2, 0, 11), -1);
    }

    private static void count() {
        about("promise 35");
        MiddleQueue x = told("ap1;bp2;cp9", "nfb");
        x.event(0, 20, 11);
        x.event(2, 1, 0);
        x.seen(0, 0, 0);
        x.lose(0);
        // Behind minute 2 the first two are served, by the front and the back; the third takes minutes 3 to 11.
        int[] want = {3, 3, 11, 3, 2, 3, 0, 1, 1};
        for (int what = 0; what <= 8; what++) {
            due("count(" + what + ")", x.count(what), want[what]);
        }
        due("count(-1)", x.count(-1), BAD);
        due("count(9)", x.count(9), BAD);
        say(x, 0, ";");
        say(x, 1, "?");
        int[] faulty = {0, 0, 12, 4, 2, 0, 0, 1, 1};
        for (int what = 0; what <= 8; what++) {
            due("count(" + what + ") with faults", x.count(what), faulty[what]);
        }
        MiddleQueue y = told("ap9;ap9;ap9", SHUT);
        due("count(5)", y.count(5), 0);
        due("count(6)", y.count(6), 3);
    }

    private static void digest() {
        about("promise 36");
        digestIs(new MiddleQueue());
        String people = "ap4;am2;bp3;dw1;ep2;xp1";
        digestIs(told(people, "nftb"));
        MiddleQueue x = withEvents(people);
        digestIs(x);
        x = withEvents(people);
        x.seen(0, 0, 0);
        digestIs(x);
        x = withEvents(people);
        say(x, 0, ";");
        digestIs(x);
        x = withEvents(people);
        long before = x.digest();
        x.get(0, 0, 0);
        due("count(8)", x.count(8), 1);
        x.put(0, 0, 0, 0);
        x.lose(0);
        due("digest() does not tell the finding", x.digest(), before);
        // Where the spared events, the one let through and the minute of a window all tell.
        x = told("ap1;am9;im1;np4", "nnnnnfnnfnnnnnnnnnnnnnnn");
        x.event(2, 5, 0);
        x.event(0, 10, 1);
        x.event(0, 14, 2);
        x.event(0, 15, 3);
        due("spare(0)", x.spare(0), 0);
        digestIs(x);
    }

    private static MiddleQueue withEvents(String people) {
        MiddleQueue x = told(people, "nftb");
        x.event(1, 3, 1);
        x.event(0, 9, 0);
        x.event(2, 4, 2);
        return x;
    }

    private static void digestIs(MiddleQueue x) {
        due("digest()", x.digest(), digestOf(x));
    }
}
