// The edges that the document tells of what was SEEN and what may have been, of chances and of decades.
public final class SeenEdgeTest extends Checks {
    private static final int HOME = 0, FRONT = 1, BACK = 2, NOBODY = 12;

    public static void main(String[] args) {
        eightSeen();
        forgotten();
        seenNobody();
        never();
        sorts();
        parcels();
        eighthEvent();
        ask();
        askOfNone();
        chance();
        chanceByItself();
        lowestTerms();
        decades();
        lotsThatWrap();
        decadesInPlace();
        end("the edges of what was seen, of chances and decades hold");
    }

    private static void eightSeen() {
        about("SEEN, 8 at most: behind a MINUTE at a PLACE (0 to 11) stood a PERSON (0 to 11; 12: nobody)");
        MiddleQueue x = new MiddleQueue();
        int[][] edges = {{0, 0, 0}, {23, 0, 0}, {0, 11, 0}, {0, 0, 11}, {0, 0, 12}, {23, 11, 12}, {1, 1, 1}, {0, 0, 0}};
        for (int many = 1; many <= 8; many++) {
            int[] s = edges[many - 1];
            due("seen " + many, x.seen(s[0], s[1], s[2]), many);
            due("count(7)", x.count(7), many);
        }
        due("a ninth", x.seen(0, 0, 0), FULL);
        due("a ninth again", x.seen(23, 11, 12), FULL);
        due("BAD ahead of FULL", x.seen(0, 0, 13), BAD);
        due("BAD ahead of FULL", x.seen(0, 12, 0), BAD);
        due("BAD ahead of FULL", x.seen(24, 0, 0), BAD);
        due("BAD ahead of FULL", x.seen(-1, -1, -1), BAD);
        due("count(7)", x.count(7), 8);
    }

    private static void forgotten() {
        about("All SEEN are forgotten: how many");
        MiddleQueue x = told("am9", SHUT);
        due("none", x.forget(), 0);
        for (int many = 0; many <= 8; many++) {
            for (int i = 0; i < many; i++) {
                x.seen(5, 5, 5);
            }
            due("was(0, 0) of " + many, x.was(0, 0), many == 0 ? 7 : 0);
            due("forget() of " + many, x.forget(), many);
            due("count(7)", x.count(7), 0);
            due("was(0, 0)", x.was(0, 0), 7);
        }
        due("seen behind it", x.seen(0, 0, 0), 1);
        due("was(0, 0)", x.was(0, 0), 7);
    }

    private static void fits(String what, boolean so, int minute, int place, int person) {
        MiddleQueue x = told(times("am9", 11) + ";xm9", SHUT);
        x.event(BACK, 0, 11);
        x.seen(minute, place, person);
        due(what + " by never()", x.never(), so ? 1 : 0);
        due(what + " by was(0, 1)", x.was(0, 1), so ? 1022 : 0);
    }

    private static void seenNobody() {
        about("12: nobody; a PLACE 0 to 11; a MINUTE 0 to 23");
        fits("the first one", true, 0, 0, 0);
        fits("another one", false, 0, 0, 1);
        fits("nobody", false, 0, 0, NOBODY);
        fits("the last one", true, 0, 10, 10);
        fits("nobody behind the last one", true, 0, 11, NOBODY);
        fits("one behind the last one", false, 0, 11, 11);
        fits("the twelfth in minute 22", false, 22, 11, 11);
        fits("nobody in minute 22", true, 22, 11, NOBODY);
        fits("the twelfth in minute 23", true, 23, 11, 11);
        fits("nobody in minute 23", false, 23, 11, NOBODY);
        about("a PERSON 0 to 11, whether there are so many or not; nobody stands there");
        MiddleQueue x = told("am9", SHUT);
        x.seen(0, 0, 11);
        due("was(0, 0)", x.was(0, 0), 0);
        x.forget();
        x.seen(0, 11, NOBODY);
        due("was(0, 0)", x.was(0, 0), 7);
        x = new MiddleQueue();
        x.event(HOME, 0, 0);
        x.seen(23, 0, NOBODY);
        due("never() without people", x.never(), 1);
        x.seen(23, 0, 0);
        due("never() without people", x.never(), 0);
    }

    private static void never() {
        about("NEVER: EVENTS each of which, had it alone not been, makes all that was SEEN come out so, as bits");
        due("no events", new MiddleQueue().never(), 0);
        MiddleQueue x = told("am9;am9", SHUT);
        x.seen(23, 0, 0);
        due("no events, though it fits", x.never(), 0);
        x.forget();
        for (int many = 1; many <= 8; many++) {
            x.event(HOME, 20, 11);
            due("nothing seen, of " + many, x.never(), (1 << many) - 1);
        }
        for (int e = 0; e < 8; e++) {
            x = told("am9;am9", SHUT);
            for (int i = 0; i < 8; i++) {
                x.event(i == e ? BACK : HOME, 20, i == e ? 0 : 11);
            }
            x.seen(20, 0, 0);
            due("the one of number " + e, x.never(), 1 << e);
            x.seen(20, 1, 1);
            due("and what fits with it", x.never(), 1 << e);
            x.seen(19, 0, 1);
            due("but not all of it", x.never(), 0);
            x.forget();
            x.seen(20, 0, 1);
            due("all but the one of number " + e, x.never(), 255 - (1 << e));
        }
        about("NEVER: had it ALONE not been");
        x = told("am9;am9", SHUT);
        x.event(BACK, 20, 0);
        x.event(BACK, 21, 0);
        x.seen(22, 0, 0);
        due("either would do the same", x.never(), 0);
        x.forget();
        x.seen(21, 0, 1);
        due("either of them", x.never(), 3);
        x.seen(20, 0, 0);
        due("the first one", x.never(), 1);
        due("count(4)", x.count(4), 2);
    }

    private static void sorts() {
        about("SORT of a PERSON: 0 p, 1 w, 2 m, in place of one's own, as bits");
        String six = times("am9", 6);
        for (String own : new String[] {"p", "w", "m"}) {
            int[] behind = {3, 2, 6};
            for (int sort = 0; sort <= 2; sort++) {
                MiddleQueue x = told(six + ";a" + own + "9", SHUT);
                due("nothing seen", x.was(6, 0), 7);
                x.seen(0, behind[sort], 6);
                due("sort " + sort, x.was(6, 0), 1 << sort);
                x.seen(0, behind[(sort + 1) % 3], 6);
                due("none", x.was(6, 0), 0);
                due("person(6, 1)", x.person(6, 1), "pwm".indexOf(own));
            }
            MiddleQueue x = told(six + ";a" + own + "9", SHUT);
            x.seen(0, 0, 0);
            due("all", x.was(6, 0), 7);
            x.seen(0, 6, 5);
            due("all but m", x.was(6, 0), 3);
        }
        due("of one beyond", told(six, SHUT).was(6, 0), BAD);
        due("of the twelfth", told(times("am9", 12), SHUT).was(11, 0), 7);
        due("a like place", told("am9", SHUT).was(0, 0), 7);
    }

    private static void parcels() {
        about("PARCELS of a PERSON: 1 to 9, in place of one's own, as bits (bit 1 on)");
        for (int own = 1; own <= 9; own++) {
            due("nothing seen", told("am" + own, "").was(0, 1), 1022);
            for (int parcel = 1; parcel <= 9; parcel++) {
                MiddleQueue x = told("am" + own, "");
                x.seen(parcel - 1, 0, NOBODY);
                due("at most " + parcel, x.was(0, 1), (1 << (parcel + 1)) - 2);
                x.forget();
                if (parcel > 1) {
                    x.seen(parcel - 2, 0, 0);
                    due("at least " + parcel, x.was(0, 1), 1024 - (1 << parcel));
                    x.seen(parcel - 1, 0, NOBODY);
                    due("just " + parcel, x.was(0, 1), 1 << parcel);
                }
                due("person(0, 2)", x.person(0, 2), own);
            }
            MiddleQueue x = told("am" + own, "");
            x.seen(8, 0, 0);
            due("none", x.was(0, 1), 0);
        }
        due("of one beyond", told("am9", SHUT).was(1, 1), BAD);
        due("of the twelfth", told(times("am9", 12), SHUT).was(11, 1), 1022);
    }

    // The eighth of the events is what tells, in the days of another sort and parcel, too.
    private static void eighthEvent() {
        about("SORT, PARCELS, ASK: in place of one's own, and all else as it is told");
        MiddleQueue x = told("am9;am9;am9;am3", SHUT);
        for (int e = 1; e <= 7; e++) {
            x.event(HOME, 0, 0);
        }
        x.seen(20, 0, 2);
        due("was(3, 0) without the eighth", x.was(3, 0), 0);
        due("was(3, 1) without the eighth", x.was(3, 1), 0);
        x.event(FRONT, 20, 2);
        due("was(3, 0) with the eighth", x.was(3, 0), 7);
        due("was(3, 1) with the eighth", x.was(3, 1), 1022);
        x.back();
        due("was(3, 0) without it again", x.was(3, 0), 0);
        x.event(BACK, 20, 2);
        due("was(3, 0) with another one", x.was(3, 0), 0);
        x = told("am9", "f".repeat(24));
        for (int e = 1; e <= 7; e++) {
            x.event(FRONT, 0, 0);
        }
        due("ask(0) without the eighth", x.ask(0), 3);
        x.event(HOME, 2, 0);
        due("ask(0) with the eighth", x.ask(0), 1);
    }

    private static void ask() {
        about("ASK: the MINUTE behind which the greatest number of those by which all stand alike is least");
        // Of the parcels 1 to 9, m + 1 are gone behind minute m: 4 and 5, or 5 and 4; the least minute.
        due("from minute 0", told("am1", "").ask(0), 3);
        due("from minute 14", told("om9", "").ask(0), 17);
        due("from minute 19", told("tm5", "").ask(0), 22);
        due("from minute 20", told("um5", "").ask(0), 23);
        due("from minute 22", told("wm5", "").ask(0), 23);
        // In the last minute alone one of the nine is gone.
        due("from minute 23", told("xm5", "").ask(0), 23);
        // One is served in minute 0 alone, with a parcel of 1: from then on it is 8 of the 9.
        due("of minute 0", told("am5", "f" + SHUT.substring(1)).ask(0), 0);
        due("of minute 1", told("am5", only(1, 'f')).ask(0), 1);
        about("ASK: of like ones the least");
        due("all alike", told("xm5", SHUT).ask(0), 0);
        MiddleQueue x = told("am1", "");
        x.seen(7, 0, 0);
        due("of one", x.ask(0), 0);
        due("was(0, 1)", x.was(0, 1), 512);
        x.forget();
        x.seen(6, 0, 0);
        due("of two", x.ask(0), 7);
        x.seen(7, 0, NOBODY);
        due("of one", x.ask(0), 0);
        // The last one is the only one from minute 1 on, so with the two windows, too, each minute takes one of it.
        due("of the last one", told("am1;am9", "t".repeat(24)).ask(1), 3);
        due("of one whom none serves", told("am9;am5;am9", "f".repeat(9) + SHUT.substring(9)).ask(1), 0);
    }

    private static void askOfNone() {
        about("ASK: where there are none of these: 0");
        MiddleQueue x = told("xm5", "");
        due("ask(0)", x.ask(0), 23);
        x.seen(0, 0, 0);
        due("was(0, 1)", x.was(0, 1), 0);
        due("ask(0)", x.ask(0), 0);
        x.forget();
        due("ask(0)", x.ask(0), 23);
        due("of one beyond", x.ask(1), BAD);
        due("of nobody", new MiddleQueue().ask(0), BAD);
    }

    private static void chanceIs(MiddleQueue x, int c, int person, long above, long below) {
        due("chance(" + c + ", " + person + ", 0)", x.chance(c, person, 0), above);
        due("chance(" + c + ", " + person + ", 1)", x.chance(c, person, 1), below);
    }

    private static long power(long base, int many) {
        long product = 1;
        for (int i = 0; i < many; i++) {
            product *= base;
        }
        return product;
    }

    private static void chance() {
        about("CHANCE: each of EVENTS is by c sixteenths (0 to 16)");
        MiddleQueue x = told("am1;am9", only(23, 'f'));
        for (int c = 0; c <= 16; c++) {
            chanceIs(x, c, 0, 1, 1);
            chanceIs(x, c, 1, 0, 1);
        }
        for (int events = 1; events <= 8; events++) {
            x.event(HOME, 23, 0);
            chanceIs(x, 0, 0, 1, 1);
            chanceIs(x, 16, 0, 0, 1);
            chanceIs(x, 1, 0, power(15, events), power(16, events));
            chanceIs(x, 15, 0, 1, power(16, events));
            chanceIs(x, 8, 0, 1, power(2, events));
            chanceIs(x, 12, 0, 1, power(4, events));
            chanceIs(x, 4, 0, power(3, events), power(4, events));
            chanceIs(x, 8, 1, 0, 1);
        }
        about("CHANCE: a refusal -x is the least long and x more");
        due("chance(-1, 0, 0)", x.chance(-1, 0, 0), LONG_BAD);
        due("chance(17, 0, 0)", x.chance(17, 0, 0), LONG_BAD);
        due("chance(0, 2, 0)", x.chance(0, 2, 0), LONG_BAD);
        due("chance(0, -1, 0)", x.chance(0, -1, 0), LONG_BAD);
        due("chance(0, 0, 2)", x.chance(0, 0, 2), LONG_BAD);
        due("chance(0, 0, -1)", x.chance(0, 0, -1), LONG_BAD);
        due("chance of nobody", new MiddleQueue().chance(0, 0, 0), LONG_BAD);
        due("the least long and 2 more", LONG_BAD, -9223372036854775806L);
    }

    private static void chanceByItself() {
        about("CHANCE: by itself; that a PERSON is SERVED by MINUTE 23");
        // One is served if sent to the front and not to the back behind it.
        MiddleQueue x = told("am9;am1", only(23, 'f'));
        x.event(FRONT, 22, 1);
        chanceIs(x, 4, 1, 1, 4);
        x.event(BACK, 23, 1);
        chanceIs(x, 4, 1, 3, 16);
        chanceIs(x, 16, 1, 0, 1);
        chanceIs(x, 0, 1, 0, 1);
        chanceIs(x, 8, 1, 1, 4);
        x.event(FRONT, 23, 1);
        // By the last one; or by the first one, if the two others are not.
        chanceIs(x, 4, 1, 25, 64);
        chanceIs(x, 16, 1, 1, 1);
        chanceIs(x, 0, 1, 0, 1);
        about("CHANCE: of all as it is told then");
        x.back();
        chanceIs(x, 4, 1, 3, 16);
        x.undo(1);
        x.type(1, 'b');
        chanceIs(x, 4, 1, 13, 16);
        x.undo(1);
        x.type(1, 'n');
        chanceIs(x, 4, 1, 0, 1);
        x.undo(1);
        chanceIs(x, 4, 1, 3, 16);
        x.undo(0);
        due("with a fault", x.chance(4, 1, 0), LONG_BAD);
        x.type(0, '2');
        chanceIs(x, 4, 1, 0, 1);
        x.wipe(1);
        chanceIs(x, 4, 1, 1, 1);
        say(x, 1, only(23, 'f'));
        x.undo(0);
        x.type(0, '1');
        chanceIs(x, 4, 1, 3, 16);
        fill(x, 0, 0, FRONT, 23, 1);
        due("read(0)", x.read(0), 1);
        chanceIs(x, 4, 1, 25, 64);
    }

    private static void lowestTerms() {
        about("FRACTIONS are told in lowest terms, above and below (0 by 1)");
        MiddleQueue x = told("am1", only(23, 'f'));
        x.event(HOME, 23, 0);
        int[] below = {1, 16, 8, 16, 4, 16, 8, 16, 2, 16, 8, 16, 4, 16, 8, 16, 1};
        for (int c = 0; c <= 16; c++) {
            int above = c == 16 ? 0 : (16 - c) * below[c] / 16;
            chanceIs(x, c, 0, above, below[c]);
        }
        chanceIs(told("am1", SHUT), 5, 0, 0, 1);
        chanceIs(told("am1", ""), 5, 0, 1, 1);
    }

    // ---- decades, by the seed's own arithmetic: a long here, cut to 32 bits

    private static long seed;

    private static int lot(int m) {
        seed = (1103515245L * seed + 12345) & 0xFFFFFFFFL;
        return (int) ((seed >> 16) % m);
    }

    private static void decadesAre(String people, String windows, int from, int n) {
        MiddleQueue x = told(people, windows);
        MiddleQueue drawn = told(people, windows);
        seed = from & 0xFFFFFFFFL;
        for (int e = 0; e < n && drawn.count(0) > 0; e++) {
            int kind = lot(3);
            int minute = lot(24);
            drawn.event(kind, minute, lot(drawn.count(0)));
        }
        String call = "decades(" + from + ", " + n;
        due(call + ", 0) of " + people, x.decades(from, n, 0), drawn.count(5));
        due(call + ", 1) of " + people, x.decades(from, n, 1), drawn.count(6));
        due("count(4)", x.count(4), 0);
    }

    private static void decades() {
        about("DECADES by a SEED: n EVENTS (0 to 8)");
        String[] peoples = {"am9", "am9;am1;am3", times("am3", 12), "ap3;bw2;cm4;dp9;ep1;fp2;gw3;hm1;ip6;jp2;kw3;lp2", ""};
        for (String people : peoples) {
            for (String windows : new String[] {"", "nnftbnftbt", SHUT}) {
                for (int n = 0; n <= 8; n++) {
                    decadesAre(people, windows, 7, n);
                    decadesAre(people, windows, 1976 + n, n);
                }
            }
        }
        MiddleQueue x = told("am1", "");
        due("n = -1", x.decades(7, -1, 0), BAD);
        due("n = 9", x.decades(7, 9, 0), BAD);
        due("n = 0", x.decades(7, 0, 0), 1);
        due("what = -1", x.decades(7, 0, -1), BAD);
        due("what = 2", x.decades(7, 0, 2), BAD);
        due("BAD without people", new MiddleQueue().decades(7, 9, 0), BAD);
        about("DECADES: (none where there are no PEOPLE)");
        for (int n = 0; n <= 8; n++) {
            due("served", new MiddleQueue().decades(n, n, 0), 0);
            due("stand", new MiddleQueue().decades(n, n, 1), 0);
        }
    }

    private static void lotsThatWrap() {
        about("LOTS: as ints that wrap; its upper 16 bits as a number from 0 on, modulo m");
        int[] seeds = {0, 1, -1, 2, -2, 12345, -12345, Integer.MAX_VALUE, Integer.MIN_VALUE, Integer.MAX_VALUE - 1,
            Integer.MIN_VALUE + 1, 1 << 16, 1 << 30, 0xFFFF, 0xFFFF0000};
        for (int from : seeds) {
            for (int n = 1; n <= 8; n++) {
                decadesAre("am9;am9;am9", SHUT, from, n);
                decadesAre("ap3;bw2;cm4;dp9;ep1", "nnftbnftbt", from, n);
                decadesAre(times("am9", 12), SHUT, from, n);
            }
        }
        for (int from = 0; from < 200; from++) {
            decadesAre("ap3;bw2;cm4;dp9;ep1;fp2;gw3", "nbftbnftbt", from * 21474837, 8);
        }
    }

    private static void decadesInPlace() {
        about("DECADES: in place of those told");
        for (int n = 0; n <= 8; n++) {
            MiddleQueue x = told("am9;am9;am9", "");
            MiddleQueue none = told("am9;am9;am9", "");
            for (int e = 0; e < 8; e++) {
                x.event(HOME, 1, e % 3);
            }
            due("served", x.decades(3, n, 0), none.decades(3, n, 0));
            due("stand", x.decades(3, n, 1), none.decades(3, n, 1));
            due("count(4)", x.count(4), 8);
            due("count(5)", x.count(5), 0);
            due("stands(0, 0)", x.stands(0, 0), 0);
            due("stands(1, 0)", x.stands(1, 0), NONE);
        }
    }
}
