// The edges that the document tells of events, of the queue, and of what is so behind a minute.
public final class MinuteEdgeTest extends Checks {
    private static final int HOME = 0, FRONT = 1, BACK = 2;
    private static final int[] TWELVE = {0, 1, 2, 3, 4, 5, 6, 7, 8, 9, 10, 11};

    public static void main(String[] args) {
        eightEvents();
        lastEventUndone();
        notInTheQueue();
        firstItsEvents();
        oneByOne();
        ofTheEnds();
        emptyAtFirst();
        behindHalf();
        comeByNumbers();
        windowsAndWhoStands();
        aheadOfBoth();
        nothingLeft();
        placesAndMinutes();
        states();
        apart();
        served();
        stood();
        moves();
        alfred();
        kettle();
        end("the edges of the minutes hold");
    }

    private static void eightEvents() {
        about("EVENTS, 8 at most (0 on): a kind, a MINUTE, a PERSON (0 to 11)");
        MiddleQueue x = new MiddleQueue();
        int[][] edges = {{0, 0, 0}, {2, 0, 0}, {0, 23, 0}, {0, 0, 11}, {2, 23, 11}, {1, 11, 5}, {0, 0, 0}, {0, 0, 0}};
        for (int many = 1; many <= 8; many++) {
            int[] e = edges[many - 1];
            due("event " + many, x.event(e[0], e[1], e[2]), many);
            due("count(4)", x.count(4), many);
        }
        due("a ninth", x.event(0, 0, 0), FULL);
        due("a ninth again", x.event(2, 23, 11), FULL);
        due("a bad one: BAD ahead of FULL", x.event(-1, 0, 0), BAD);
        due("a bad one: BAD ahead of FULL", x.event(0, 24, 0), BAD);
        due("a bad one: BAD ahead of FULL", x.event(0, 0, 12), BAD);
        due("count(4)", x.count(4), 8);
        for (int left = 7; left >= 0; left--) {
            due("back()", x.back(), left);
            due("count(4)", x.count(4), left);
        }
        due("back() of none", x.back(), NOT);
        due("back() of none again", x.back(), NOT);
        due("count(4)", x.count(4), 0);
        due("event behind it", x.event(0, 0, 0), 1);
    }

    private static void lastEventUndone() {
        about("The last EVENT is undone: how many are left; NOT: there is none");
        MiddleQueue x = told("am9;am9;am9", SHUT);
        x.event(FRONT, 5, 1);
        x.event(FRONT, 5, 2);
        queue(x, 5, 2, 1, 0);
        due("back()", x.back(), 1);
        queue(x, 5, 1, 0, 2);
        // In its place one of another minute: of the undone one nothing is left.
        due("event(1, 7, 2)", x.event(FRONT, 7, 2), 2);
        queue(x, 5, 1, 0, 2);
        queue(x, 6, 1, 0, 2);
        queue(x, 7, 2, 1, 0);
        due("back()", x.back(), 1);
        due("back()", x.back(), 0);
        queue(x, 23, 0, 1, 2);
        due("back() of none", x.back(), NOT);
        queue(x, 23, 0, 1, 2);
        due("event(0, 9, 0)", x.event(HOME, 9, 0), 1);
        queue(x, 8, 0, 1, 2);
        queue(x, 9, 1, 2);
    }

    private static void notInTheQueue() {
        about("nothing, if one does not stand in THE QUEUE then");
        String three = "cm9;cm9;cm2";
        for (int kind = HOME; kind <= BACK; kind++) {
            int p = kind == BACK ? 0 : 2;
            nothing("ahead of one's minute", three, SHUT, -1, kind, 1, p);
            nothing("in one's minute, ahead of one's coming", three, SHUT, -1, kind, 2, p);
            nothing("of one that there is not", three, SHUT, -1, kind, 3, 3);
            nothing("of one that there is not", three, SHUT, -1, kind, 3, 11);
            nothing("of nobody", "", SHUT, -1, kind, 0, 0);
            nothing("behind one's being served", "am1;am9;am9", "f" + SHUT.substring(1), -1, kind, 1, 0);
            nothing("behind one's being served at the back", "am9;am9;am1", "b" + SHUT.substring(1), -1, kind, 1, 2);
            nothing("behind one's going home, in that minute", three, SHUT, p, kind, 5, p);
            nothing("behind one's going home, later", three, SHUT, p, kind, 6, p);
            nothing("behind one's going home, at last", three, SHUT, p, kind, 23, p);
        }
        MiddleQueue x = told(three, SHUT);
        x.event(HOME, 3, 0);
        queue(x, 2, 0, 1, 2);
        queue(x, 3, 1, 2);
        x.back();
        x.event(FRONT, 3, 2);
        queue(x, 3, 2, 0, 1);
        x.back();
        x.event(BACK, 3, 0);
        queue(x, 3, 1, 2, 0);
    }

    // Whether one went home in minute 5 ahead of it (goes; -1 is nobody), or not: the event changes nothing.
    private static void nothing(String when, String people, String windows, int goes, int kind, int minute, int p) {
        MiddleQueue with = told(people, windows);
        MiddleQueue without = told(people, windows);
        if (goes >= 0) {
            with.event(HOME, 5, goes);
            without.event(HOME, 5, goes);
        }
        with.event(kind, minute, p);
        for (int m = 0; m < 24; m++) {
            for (int place = 0; place < 4; place++) {
                due("kind " + kind + " " + when + ": stands(" + m + ", " + place + ")", with.stands(m, place),
                        without.stands(m, place));
            }
        }
        for (int one = 0; one < with.count(0); one++) {
            due("state " + when, with.at(23, one, 0), without.at(23, one, 0));
            due("left " + when, with.at(23, one, 2), without.at(23, one, 2));
        }
        due("count(5) " + when, with.count(5), without.count(5));
    }

    private static void firstItsEvents() {
        about("In a MINUTE first its EVENTS are done, then PEOPLE come, then the windows");
        // One who goes home in the minute in which one would have been served is not served.
        MiddleQueue x = told("am2;am9", "ff" + SHUT.substring(2));
        x.event(HOME, 1, 0);
        due("at(1, 0, 0)", x.at(1, 0, 0), 3);
        due("at(1, 0, 2)", x.at(1, 0, 2), 1);
        due("at(1, 1, 2)", x.at(1, 1, 2), 8);
        // One who is let to the front is served in that minute.
        x = told("am9;am1", only(1, 'f'));
        x.event(FRONT, 1, 1);
        due("done(1, 0)", x.done(1, 0), 1);
        // One who comes counts who is there behind the events.
        x = told("am9;am9;bp9", SHUT);
        x.event(HOME, 1, 0);
        queue(x, 1, 2, 1);
        x = told("am9;am9;bm9", SHUT);
        x.event(BACK, 1, 0);
        queue(x, 1, 1, 0, 2);
        about("an EVENT in MINUTE 0, and in MINUTE 23");
        x = told("am9;am9", SHUT);
        x.event(HOME, 0, 0);
        x.event(FRONT, 0, 1);
        queue(x, 0, 0, 1);
        queue(x, 23, 0, 1);
        x.event(FRONT, 23, 1);
        queue(x, 22, 0, 1);
        queue(x, 23, 1, 0);
        x.event(HOME, 23, 0);
        queue(x, 22, 0, 1);
        queue(x, 23, 1);
    }

    private static void oneByOne() {
        about("EVENTS are done one by one, by their numbers");
        MiddleQueue x = told("am9;am9;am9", SHUT);
        x.event(FRONT, 1, 2);
        x.event(FRONT, 1, 1);
        queue(x, 1, 1, 2, 0);
        x.event(BACK, 1, 1);
        queue(x, 1, 2, 0, 1);
        x.event(HOME, 1, 0);
        x.event(BACK, 1, 2);
        queue(x, 1, 1, 2);
        x.event(FRONT, 1, 0);
        queue(x, 1, 1, 2);
        x.event(FRONT, 1, 2);
        x.event(FRONT, 1, 1);
        queue(x, 1, 1, 2);
        queue(x, 0, 0, 1, 2);
    }

    private static void ofTheEnds() {
        about("one goes HOME, is let to the FRONT, is sent to the BACK: the first, the last, the only one");
        String twelve = times("am9", 12);
        for (int p : new int[] {0, 5, 11}) {
            MiddleQueue x = told(twelve, SHUT);
            x.event(FRONT, 1, p);
            queue(x, 1, moved(p, 0));
            x.event(BACK, 2, p);
            queue(x, 2, moved(p, 11));
            x.event(HOME, 3, p);
            due("many(3)", x.many(3), 11);
            due("at(3, p, 0)", x.at(3, p, 0), 3);
            due("stands(3, 11)", x.stands(3, 11), NONE);
            due("stands(3, 10)", x.stands(3, 10), p == 11 ? 10 : 11);
        }
        MiddleQueue one = told("am9", SHUT);
        one.event(FRONT, 1, 0);
        queue(one, 1, 0);
        one.event(BACK, 2, 0);
        queue(one, 2, 0);
        one.event(HOME, 3, 0);
        queue(one, 3);
        queue(one, 23);
    }

    private static int[] moved(int person, int place) {
        int[] row = new int[12];
        row[place] = person;
        int at = 0;
        for (int p : TWELVE) {
            if (p != person) {
                row[at == place ? ++at : at] = p;
                at++;
            }
        }
        return row;
    }

    private static void emptyAtFirst() {
        about("THE QUEUE is empty at first");
        MiddleQueue x = new MiddleQueue();
        queue(x, 0);
        queue(x, 23);
        for (String one : new String[] {"ap9", "aw9", "am9"}) {
            queue(told(one, SHUT), 0, 0);
        }
        x = told("xm9", SHUT);
        queue(x, 0);
        queue(x, 22);
        queue(x, 23, 0);
    }

    private static void behindHalf() {
        about("gets in behind half of these, cut, a mathematician's wife behind a third, cut, a mannerly one behind all");
        for (int there = 0; there <= 11; there++) {
            for (String minute : new String[] {"a", "b", "x"}) {
                String ahead = there == 0 ? "" : times("am9", there) + ";";
                due("plain, of " + there, told(ahead + minute + "p9", SHUT).at(23, there, 1), there / 2);
                due("wife, of " + there, told(ahead + minute + "w9", SHUT).at(23, there, 1), there / 3);
                due("mannerly, of " + there, told(ahead + minute + "m9", SHUT).at(23, there, 1), there);
                due("many(23)", told(ahead + minute + "p9", SHUT).many(23), there + 1);
            }
        }
        queue(told(times("am9", 11) + ";ap9", SHUT), 0, 0, 1, 2, 3, 4, 11, 5, 6, 7, 8, 9, 10);
        queue(told(times("am9", 11) + ";aw9", SHUT), 0, 0, 1, 2, 11, 3, 4, 5, 6, 7, 8, 9, 10);
        queue(told(times("am9", 11) + ";am9", SHUT), 0, TWELVE);
        about("the first few never move and the last are a sort of backstop");
        queue(told(times("ap9", 12), SHUT), 0, 1, 3, 5, 7, 9, 11, 10, 8, 6, 4, 2, 0);
        queue(told(times("aw9", 12), SHUT), 0, 2, 5, 8, 11, 10, 9, 7, 6, 4, 3, 1, 0);
    }

    private static void comeByNumbers() {
        about("PEOPLE come whose MINUTE it is, by numbers: each counts who is there");
        MiddleQueue x = told("bm9;am9;bm9;am9", SHUT);
        queue(x, 0, 1, 3);
        queue(x, 1, 1, 3, 0, 2);
        x = told("bp9;ap9;bp9;ap9", SHUT);
        queue(x, 0, 3, 1);
        queue(x, 1, 3, 2, 0, 1);
        // One who was served in the minute ahead is not there to be counted.
        x = told("am1;am9;am9;bp9", "f" + SHUT.substring(1));
        queue(x, 0, 1, 2);
        queue(x, 1, 1, 3, 2);
        // One who is served in this minute is.
        x = told("am1;am9;am9;ap9", "f" + SHUT.substring(1));
        queue(x, 0, 3, 1, 2);
    }

    private static void windowsAndWhoStands() {
        about("the FRONT: who stands first; the BACK: who stands last, but not the first one too with the FRONT open");
        for (int many = 0; many <= 12; many++) {
            for (int way = 0; way <= 3; way++) {
                String windows = "nfbt".charAt(way) + SHUT.substring(1);
                MiddleQueue two = told(times("am2", many), windows);
                MiddleQueue one = told(times("am1", many), windows);
                int served = 0;
                for (int p = 0; p < many; p++) {
                    boolean front = (way == 1 || way == 3) && p == 0;
                    boolean back = (way == 2 || way == 3) && p == many - 1;
                    String told = " of " + many + ", window " + way;
                    due("left " + p + told, two.at(0, p, 2), front || back ? 1 : 2);
                    due("stands " + p + told, two.at(0, p, 0), 1);
                    due("left of 1 " + p + told, one.at(0, p, 2), front || back ? 0 : 1);
                    due("state " + p + told, one.at(0, p, 0), front || back ? 2 : 1);
                    served += front || back ? 1 : 0;
                }
                due("count(5)", one.count(5), served);
                due("count(5)", two.count(5), 0);
                due("many(0)", one.many(0), many - served);
                due("many(0)", two.many(0), many);
            }
        }
    }

    private static void aheadOfBoth() {
        about("first and last as they stand ahead of both");
        MiddleQueue x = told("am1;am2", "t" + SHUT.substring(1));
        due("the last one is not made the only one", x.at(0, 1, 2), 1);
        queue(x, 0, 1);
        x = told("am1;am1", "t" + SHUT.substring(1));
        due("count(5)", x.count(5), 2);
        queue(x, 0);
        x = told("am2;am1", "t" + SHUT.substring(1));
        due("the first one once", x.at(0, 0, 2), 1);
        queue(x, 0, 0);
        x = told("am1;am1;am1", "t" + SHUT.substring(1));
        due("not the one between", x.at(0, 1, 2), 1);
        queue(x, 0, 1);
        x = told("am2", "tt" + SHUT.substring(2));
        due("the only one once", x.at(0, 0, 2), 1);
        due("and once more", x.at(1, 0, 0), 2);
        x = told("am1;am9", "tt" + SHUT.substring(2));
        due("left by both of minute 0", x.at(0, 1, 2), 8);
        due("the only one once, then", x.at(1, 1, 2), 7);
    }

    // A lone one of each minute, with each parcel, at each window that serves.
    private static void nothingLeft() {
        about("Then who has nothing left is SERVED, and not in THE QUEUE any more");
        for (int minute = 0; minute < 24; minute++) {
            for (int parcel = 1; parcel <= 9; parcel++) {
                String one = "" + (char) ('a' + minute) + 'w' + parcel;
                int due = minute + parcel - 1;
                for (char sign : new char[] {'f', 'b', 't'}) {
                    MiddleQueue x = told(one, ("" + sign).repeat(24));
                    due("done(0, 0) of " + one + sign, x.done(0, 0), due <= 23 ? due : NONE);
                    due("done(0, 1) of " + one + sign, x.done(0, 1), Math.min(due, 24) - minute);
                    due("at(23, 0, 2) of " + one + sign, x.at(23, 0, 2), Math.max(0, due - 23));
                    due("at(23, 0, 0) of " + one + sign, x.at(23, 0, 0), due <= 23 ? 2 : 1);
                    due("at(m, 0, 2) of " + one + sign, x.at(minute, 0, 2), parcel - 1);
                    due("count(5) of " + one + sign, x.count(5), due <= 23 ? 1 : 0);
                    due("count(6) of " + one + sign, x.count(6), due <= 23 ? 0 : 1);
                    due("kettle() of " + one + sign, x.kettle(), due <= 23 ? 0 : 1);
                }
            }
        }
    }

    private static void placesAndMinutes() {
        about("who stands at a PLACE (0 the first one, to 11); NONE; how many stand there");
        MiddleQueue x = told(times("xm9", 12), SHUT);
        due("stands(22, 0)", x.stands(22, 0), NONE);
        due("many(22)", x.many(22), 0);
        due("many(23)", x.many(23), 12);
        due("stands(23, 0)", x.stands(23, 0), 0);
        due("stands(23, 11)", x.stands(23, 11), 11);
        due("stands(23, 12)", x.stands(23, 12), BAD);
        due("stands(23, -1)", x.stands(23, -1), BAD);
        due("stands(24, 0)", x.stands(24, 0), BAD);
        due("stands(-1, 0)", x.stands(-1, 0), BAD);
        due("many(24)", x.many(24), BAD);
        due("many(-1)", x.many(-1), BAD);
        x = told(times("am9", 11), SHUT);
        due("stands(0, 10)", x.stands(0, 10), 10);
        due("stands(0, 11)", x.stands(0, 11), NONE);
        due("many(0)", x.many(0), 11);
    }

    private static void states() {
        about("0 did not come yet, 1 stands, 2 SERVED, 3 went HOME; the PLACE (NONE); what is left");
        MiddleQueue x = told("cm2;cm9;cm9;xm1;am9", "nnnf" + "n".repeat(19) + "b");
        x.event(HOME, 5, 1);
        x.event(FRONT, 3, 0);
        x.event(FRONT, 23, 2);
        atIs(x, 0, 0, 0, NONE, 2);
        atIs(x, 1, 0, 0, NONE, 2);
        atIs(x, 2, 0, 1, 1, 2);
        atIs(x, 3, 0, 1, 0, 1);
        atIs(x, 23, 0, 1, 1, 1);
        atIs(x, 1, 1, 0, NONE, 9);
        atIs(x, 4, 1, 1, 2, 9);
        atIs(x, 5, 1, 3, NONE, 9);
        atIs(x, 23, 1, 3, NONE, 9);
        atIs(x, 22, 3, 0, NONE, 1);
        atIs(x, 23, 3, 2, NONE, 0);
        atIs(x, 0, 4, 1, 0, 9);
        x = told("am1", "nf");
        atIs(x, 0, 0, 1, 0, 1);
        atIs(x, 1, 0, 2, NONE, 0);
        atIs(x, 23, 0, 2, NONE, 0);
        x = told("am1", "f");
        atIs(x, 0, 0, 2, NONE, 0);
        x = told("am3", "f" + SHUT.substring(1));
        x.event(HOME, 23, 0);
        atIs(x, 22, 0, 1, 0, 2);
        atIs(x, 23, 0, 3, NONE, 2);
    }

    private static void atIs(MiddleQueue x, int minute, int person, int state, int place, int left) {
        due("at(" + minute + ", " + person + ", 0)", x.at(minute, person, 0), state);
        due("at(" + minute + ", " + person + ", 1)", x.at(minute, person, 1), place);
        due("at(" + minute + ", " + person + ", 2)", x.at(minute, person, 2), left);
    }

    private static void apart() {
        about("APART of two: how many stand between them; NONE: not both stand");
        MiddleQueue x = told(times("am9", 12), SHUT);
        due("apart(0, 0, 11)", x.apart(0, 0, 11), 10);
        due("apart(23, 11, 0)", x.apart(23, 11, 0), 10);
        due("apart(0, 0, 1)", x.apart(0, 0, 1), 0);
        due("apart(0, 11, 10)", x.apart(0, 11, 10), 0);
        due("apart(0, 11, 11)", x.apart(0, 11, 11), BAD);
        due("apart(0, 0, 0)", x.apart(0, 0, 0), BAD);
        due("apart(0, 11, 12)", x.apart(0, 11, 12), BAD);
        due("apart(0, 12, 11)", x.apart(0, 12, 11), BAD);
        due("apart(0, -1, 0)", x.apart(0, -1, 0), BAD);
        due("apart(0, 0, -1)", x.apart(0, 0, -1), BAD);
        due("one that there is not and oneself", x.apart(0, 12, 12), BAD);
        x = told("am9;cm9;am1;cm9;bm9", "b" + SHUT.substring(1));
        x.event(HOME, 4, 4);
        due("one did not come yet", x.apart(1, 0, 1), NONE);
        due("the other did not come yet", x.apart(1, 1, 0), NONE);
        due("both did not come yet", x.apart(1, 1, 3), NONE);
        due("both come in this one", x.apart(2, 1, 3), 0);
        due("one was served", x.apart(1, 2, 0), NONE);
        due("the other was served", x.apart(1, 0, 2), NONE);
        due("ahead of going home", x.apart(3, 0, 4), 0);
        due("one went home", x.apart(4, 4, 0), NONE);
        due("the other went home", x.apart(4, 0, 4), NONE);
        due("one served, one at home", x.apart(4, 2, 4), NONE);
        due("BAD ahead of NONE", x.apart(24, 0, 1), BAD);
        about("couples are parted by a stranger");
        x = told("am9;am9;bp9", SHUT);
        due("apart(0, 0, 1)", x.apart(0, 0, 1), 0);
        due("apart(1, 0, 1)", x.apart(1, 0, 1), 1);
    }

    private static void served() {
        about("DONE: the MINUTE in which one is SERVED; NONE");
        due("in minute 0", told("am1", "").done(0, 0), 0);
        due("in minute 23", told("xm1", "").done(0, 0), 23);
        due("not by minute 23", told("xm2", "").done(0, 0), NONE);
        due("of a ninth in minute 23", told("pm9", "").done(0, 0), 23);
        due("not of a ninth in minute 24", told("qm9", "").done(0, 0), NONE);
        MiddleQueue x = told("am2", "");
        x.event(HOME, 1, 0);
        due("of one at home", x.done(0, 0), NONE);
        due("of nobody", x.done(1, 0), BAD);
    }

    private static void stood() {
        about("STOOD: behind how many MINUTES one stands");
        due("throughout", told("am9", SHUT).done(0, 1), 24);
        due("but minute 0", told("bm9", SHUT).done(0, 1), 23);
        due("but minute 23", told("am1", only(23, 'f')).done(0, 1), 23);
        due("the last one alone", told("xm9", SHUT).done(0, 1), 1);
        due("not the minute of being served", told("xm1", "").done(0, 1), 0);
        due("served at once", told("am1", "").done(0, 1), 0);
        due("one", told("am2", "").done(0, 1), 1);
        MiddleQueue x = told("am9", SHUT);
        x.event(HOME, 0, 0);
        due("an event ahead of one's coming", x.done(0, 1), 24);
        x.event(HOME, 1, 0);
        due("home in minute 1", x.done(0, 1), 1);
    }

    private static void moves() {
        about("MOVES: the PLACE is another one than behind the MINUTE ahead (one stands behind both)");
        MiddleQueue x = told("am9;am9", SHUT);
        due("none", x.done(0, 2), 0);
        x.event(BACK, 1, 0);
        due("in minute 1", x.done(0, 2), 1);
        due("of the other, too", x.done(1, 2), 1);
        x.event(BACK, 23, 1);
        due("in minute 23", x.done(0, 2), 2);
        x.event(BACK, 22, 1);
        due("there and back", x.done(0, 2), 2);
        due("there and back", x.done(1, 2), 2);
        x = told("am9;am9", SHUT);
        x.event(BACK, 5, 0);
        x.event(FRONT, 5, 0);
        due("there and back in one minute", x.done(0, 2), 0);
        about("MOVES: neither coming, nor being served, nor going home is one");
        due("come first", told("xm9", SHUT).done(0, 2), 0);
        due("come to place 1", told("am9;bm9", SHUT).done(1, 2), 0);
        due("served from place 0", told("bm1", "nn").done(0, 2), 0);
        due("served from place 1", told("am9;am2", "bb").done(1, 2), 0);
        x = told("am9;am9", SHUT);
        x.event(HOME, 2, 1);
        due("home from place 1", x.done(1, 2), 0);
        due("the first one does not move", x.done(0, 2), 0);
        about("each time that somebody new gets in she is moved a bit further on");
        x = told("am9;bp9;cp9;dp9;ep9;fp9;gp9;hp9;ip9;jp9;kp9;lp9", SHUT);
        due("done(0, 2)", x.done(0, 2), 11);
        due("at(23, 0, 1)", x.at(23, 0, 1), 11);
        due("alfred(0)", x.alfred(0), 1);
        x = told("am9;bp9;cp9;dp9;ep9;fp9;gp9;hp9;ip9;jp9;kp9;xp9", SHUT);
        due("in the last minute, too", x.done(0, 2), 11);
    }

    private static void alfred() {
        about("ALFRED: who stands first behind most MINUTES, of like ones the least; NONE: nobody ever");
        alfredIs(new MiddleQueue(), NONE, NONE);
        alfredIs(told("am1;bm1;xm1", ""), NONE, NONE);
        alfredIs(told("xm2", ""), 0, 1);
        alfredIs(told("am2", ""), 0, 1);
        alfredIs(told("am9", SHUT), 0, 24);
        alfredIs(told(times("xm9", 12), SHUT), 0, 1);
        MiddleQueue x = told(times("am9", 12), SHUT);
        x.event(FRONT, 12, 11);
        alfredIs(x, 0, 12);
        x.back();
        x.event(FRONT, 11, 11);
        alfredIs(x, 11, 13);
        x.back();
        x.event(FRONT, 8, 11);
        x.event(FRONT, 16, 5);
        alfredIs(x, 0, 8);
        x.event(FRONT, 15, 5);
        alfredIs(x, 5, 9);
        // Of like ones the least, who came first or not.
        x = told("ym9", SHUT);
        alfredIs(x, NONE, NONE);
        x = told("mm9;am9", SHUT);
        x.event(FRONT, 12, 0);
        alfredIs(x, 1, 24);
        x.event(FRONT, 13, 0);
        alfredIs(x, 1, 13);
        x.back();
        x = told("lm9;am9", SHUT);
        x.event(FRONT, 12, 0);
        alfredIs(x, 0, 12);
    }

    private static void alfredIs(MiddleQueue x, int who, int many) {
        due("alfred(0)", x.alfred(0), who);
        due("alfred(1)", x.alfred(1), many);
    }

    private static void kettle() {
        about("KETTLE: PEOPLE who stand behind MINUTE 23, as bits");
        due("of nobody", new MiddleQueue().kettle(), 0);
        due("of twelve", told(times("am9", 12), SHUT).kettle(), 4095);
        due("of the last minute", told(times("xm9", 12), SHUT).kettle(), 4095);
        due("of the last two", told(times("xm1", 12), only(23, 't')).kettle(), 2046);
        for (int p = 0; p < 12; p++) {
            MiddleQueue x = told(times("am9", 12), SHUT);
            x.event(HOME, 23, p);
            due("without " + p, x.kettle(), 4095 - (1 << p));
            due("count(6)", x.count(6), 11);
        }
        due("served in minute 23", told("xm1", "").kettle(), 0);
        due("one left in minute 23", told("xm2", "").kettle(), 1);
    }
}
