// The edges that the document tells of the two texts: their sizes, their bytes, their faults.
public final class TextEdgeTest extends Checks {
    private static final String TWELVE = times("lm5", 12);

    public static void main(String[] args) {
        fortySevenBytes();
        twentyFourBytes();
        twelveAtMost();
        bytesOfPeople();
        bytesOfWindows();
        frontInLaterOnes();
        notEnded();
        firstOfFaults();
        asIfEmpty();
        emptied();
        undone();
        fiveHundredAndTwelve();
        end("the edges of the texts hold");
    }

    private static void fortySevenBytes() {
        about("PEOPLE are a text of up to 47 bytes");
        sizes(0, 47, 'a');
        sizes(0, 47, 0);
        sizes(0, 47, 255);
    }

    private static void twentyFourBytes() {
        about("WINDOWS are a text of up to 24 bytes");
        sizes(1, 24, 'b');
        sizes(1, 24, 0);
        sizes(1, 24, 255);
    }

    private static void sizes(int text, int most, int b) {
        MiddleQueue x = new MiddleQueue();
        for (int many = 1; many <= most; many++) {
            due("type " + many, x.type(text, b), many);
            due("count", x.count(2 + text), many);
        }
        due("type one more", x.type(text, b), FULL);
        due("type one more again", x.type(text, b), FULL);
        due("count", x.count(2 + text), most);
        due("undo", x.undo(text), most - 1);
        due("type the last one", x.type(text, b), most);
        due("type one more", x.type(text, b), FULL);
        due("the other text has room", x.type(1 - text, b), 1);
        due("wipe", x.wipe(text), most);
        due("type into the empty one", x.type(text, b), 1);
    }

    private static void twelveAtMost() {
        about("12 at most (0 on), with ; between them");
        for (int many = 0; many <= 12; many++) {
            MiddleQueue x = told(times("lm5", many), "");
            due("count(0) of " + many, x.count(0), many);
            due("count(2) of " + many, x.count(2), many == 0 ? 0 : 4 * many - 1);
            due("person(-1, 2) of " + many, x.person(-1, 2), BAD);
            due("person(0, 2) of " + many, x.person(0, 2), many == 0 ? BAD : 5);
            due("the last one of " + many, x.person(many - 1, 2), many == 0 ? BAD : 5);
            due("one beyond " + many, x.person(many, 2), BAD);
            due("many(11) of " + many, x.many(11), many);
        }
        MiddleQueue x = told(TWELVE, "");
        due("a thirteenth does not begin", x.type(0, ';'), FULL);
        due("fault(0)", x.fault(0), NONE);
        due("count(0)", x.count(0), 12);
    }

    // Each byte at the places of the first, of a middle and of the twelfth person, and between them.
    private static void bytesOfPeople() {
        String[] may = {"abcdefghijklmnopqrstuvwx", "pwm", "123456789", ";"};
        String[] sentences = {"a letter a to x", "p (plain), w (a mathematician's wife) or m (mannerly)",
            "a figure 1 to 9", "with ; between them"};
        for (int place : new int[] {0, 1, 2, 3, 20, 21, 22, 23, 43, 44, 45, 46}) {
            about(sentences[place % 4]);
            for (int b = 0; b <= 255; b++) {
                MiddleQueue x = new MiddleQueue();
                for (int i = 0; i < 47; i++) {
                    x.type(0, i == place ? b : TWELVE.charAt(i));
                }
                int meant = may[place % 4].indexOf((char) b);
                due("fault(0) of " + b + " at " + place, x.fault(0), meant < 0 ? place : NONE);
                due("count(0) of " + b + " at " + place, x.count(0), meant < 0 ? 0 : 12);
                if (place % 4 < 3) {
                    int told = place % 4 == 2 ? meant + 1 : meant;
                    due("person of " + b + " at " + place, x.person(place / 4, place % 4), meant < 0 ? BAD : told);
                }
            }
        }
    }

    private static void bytesOfWindows() {
        about("n (none), f (the FRONT), b (the BACK) or t (the two of them)");
        for (int place : new int[] {0, 1, 12, 23}) {
            for (int b = 0; b <= 255; b++) {
                MiddleQueue x = new MiddleQueue();
                for (int i = 0; i < 24; i++) {
                    x.type(1, i == place ? b : 'n');
                }
                int meant = "nfbt".indexOf((char) b);
                due("fault(1) of " + b + " at " + place, x.fault(1), meant < 0 ? place : NONE);
                due("count(1) of " + b + " at " + place, x.count(1), meant < 0 ? 0 : 24);
                due("window of " + b + " at " + place, x.window(place), meant < 0 ? 1 : meant);
            }
        }
    }

    private static void frontInLaterOnes() {
        about("open in MINUTES 0 on; f in later ones");
        for (int told = 0; told <= 24; told++) {
            MiddleQueue x = told("", SHUT.substring(0, told));
            due("count(1) of " + told, x.count(1), told);
            for (int minute = 0; minute < 24; minute++) {
                due("window(" + minute + ") of " + told, x.window(minute), minute < told ? 0 : 1);
            }
            due("window(24) of " + told, x.window(24), BAD);
            due("window(-1) of " + told, x.window(-1), BAD);
        }
    }

    private static void notEnded() {
        about("The FAULT: an empty one is well; of one that is not ended, its end");
        due("fault(0) of a new one", new MiddleQueue().fault(0), NONE);
        due("fault(1) of a new one", new MiddleQueue().fault(1), NONE);
        MiddleQueue x = new MiddleQueue();
        for (int bytes = 1; bytes <= 47; bytes++) {
            x.type(0, TWELVE.charAt(bytes - 1));
            due("fault(0) of " + bytes + " bytes", x.fault(0), bytes % 4 == 3 ? NONE : bytes);
            due("count(0) of " + bytes + " bytes", x.count(0), bytes % 4 == 3 ? (bytes + 1) / 4 : 0);
        }
        for (int bytes = 46; bytes >= 0; bytes--) {
            x.undo(0);
            due("fault(0) of " + bytes + " bytes left", x.fault(0), bytes == 0 || bytes % 4 == 3 ? NONE : bytes);
        }
        for (int bytes = 1; bytes <= 24; bytes++) {
            x.type(1, 't');
            due("fault(1) of " + bytes + " bytes", x.fault(1), NONE);
        }
    }

    private static void firstOfFaults() {
        about("The FAULT is the place of the first byte with which it cannot go on");
        faultIs(0, ";", 0);
        faultIs(0, "zz", 0);
        faultIs(0, "az0", 1);
        faultIs(0, "ap0;;", 2);
        faultIs(0, "ap1ap1", 3);
        faultIs(0, "ap1;ap1;;zp0", 8);
        faultIs(0, "ap1;aq1;zp1", 5);
        faultIs(0, times("lm5", 11) + ";lm;", 46);
        faultIs(0, times("lm5", 11) + ";lmm", 46);
        faultIs(0, times("lm5", 11) + ";yq0", 44);
        faultIs(1, "xf?", 0);
        faultIs(1, "fxf?", 1);
        faultIs(1, SHUT.substring(1) + ";", 23);
        faultIs(1, SHUT.substring(2) + ";;", 22);
    }

    private static void faultIs(int text, String bytes, int want) {
        due("fault of " + bytes, text == 0 ? told(bytes, "").fault(0) : told("", bytes).fault(1), want);
    }

    private static void asIfEmpty() {
        about("With a FAULT a text is as if it was empty");
        MiddleQueue x = told("am2;bm9", "ntb");
        queue(x, 0, 0);
        say(x, 0, ";");
        due("count(0)", x.count(0), 0);
        due("count(2)", x.count(2), 8);
        due("person(0, 0)", x.person(0, 0), BAD);
        due("kettle()", x.kettle(), 0);
        due("let(0, 0)", x.let(0, 0), NONE);
        due("alfred(0)", x.alfred(0), NONE);
        due("count(5)", x.count(5), 0);
        due("count(6)", x.count(6), 0);
        queue(x, 0);
        due("the windows stay", x.window(2), 2);
        x.undo(0);
        queue(x, 0, 0);
        queue(x, 1, 0, 1);
        x.type(1, 'x');
        due("count(1)", x.count(1), 0);
        due("count(3)", x.count(3), 4);
        for (int minute = 0; minute < 24; minute++) {
            due("window(" + minute + ")", x.window(minute), 1);
        }
        due("the people stay", x.count(0), 2);
        due("the front alone serves", x.done(0, 0), 1);
        x.undo(1);
        due("count(1)", x.count(1), 3);
        due("window(0)", x.window(0), 0);
        due("the windows serve again", x.at(1, 0, 2), 1);
    }

    private static void emptied() {
        about("wipe: a text is empty: how many bytes it had");
        MiddleQueue x = told(TWELVE, SHUT);
        due("wipe(0) of 47", x.wipe(0), 47);
        due("count(3)", x.count(3), 24);
        due("window(23)", x.window(23), 0);
        due("wipe(0) of 0", x.wipe(0), 0);
        due("count(0)", x.count(0), 0);
        due("wipe(1) of 24", x.wipe(1), 24);
        due("wipe(1) of 0", x.wipe(1), 0);
        due("window(23)", x.window(23), 1);
        due("type behind nothing", x.type(0, 'a'), 1);
        due("wipe(0) of 1", x.wipe(0), 1);
        say(x, 0, "zzzz");
        due("wipe(0) with a fault", x.wipe(0), 4);
        due("fault(0)", x.fault(0), NONE);
    }

    private static void undone() {
        about("undo: the last byte is undone: how many are left; NOT: it is empty");
        MiddleQueue x = told(TWELVE, SHUT);
        for (int text = 0; text <= 1; text++) {
            for (int left = x.count(2 + text) - 1; left >= 0; left--) {
                due("undo(" + text + ")", x.undo(text), left);
            }
            due("undo(" + text + ") of nothing", x.undo(text), NOT);
            due("undo(" + text + ") of nothing again", x.undo(text), NOT);
            due("count", x.count(2 + text), 0);
            due("type behind it", x.type(text, 'f'), 1);
            due("undo that", x.undo(text), 0);
        }
    }

    private static void fiveHundredAndTwelve() {
        about("An object is used for at most 512 calls");
        MiddleQueue x = told("ap3;bw2;bm4", "ntb");
        MiddleQueue same = told("ap3;bw2;bm4", "ntb");
        int calls = 14;
        while (calls < 511) {
            due("a window more", x.type(1, 'n'), 4);
            due("and undone", x.undo(1), 3);
            due("an event more", x.event(0, 1, 0), 1);
            due("and undone", x.back(), 0);
            due("seen", x.seen(0, 0, 11), 1);
            due("and forgotten", x.forget(), 1);
            due("a sheet", x.sheet(3, 2, 60), 60);
            calls += 7;
        }
        due("the calls", calls, 511);
        due("digest(), the 512th call", x.digest(), same.digest());
    }
}
