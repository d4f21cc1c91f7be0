// The edges that the document tells of sheets, of what is read from them and written to them, of counts and digests.
public final class SheetEdgeTest extends Checks {
    private static final int BYTES = 0, SHORTS = 1, INTS = 2;
    private static final int MOST = Integer.MAX_VALUE;
    private static final int[] SIXTY = new int[60];

    public static void main(String[] args) {
        for (int i = 0; i < 60; i++) {
            SIXTY[i] = 100 + i;
        }
        lostAtFirst();
        sixtyItems();
        aNewRow();
        lost();
        itemsOfAForm();
        lowestBits();
        castAheadOfIndex();
        copies();
        copiesAtTheEnds();
        copiesUponItself();
        copiesOfForms();
        writes();
        writesTheLowestBits();
        reads();
        readsUpToTheEighth();
        readsUpToTheFirstRefused();
        readsNegatives();
        counts();
        latestFinding();
        digestOfNothing();
        digestOfAll();
        end("the edges of the sheets hold");
    }

    private static void findingIs(MiddleQueue x, int number) {
        due("count(8)", x.count(8), number);
    }

    private static void lostAtFirst() {
        about("SHEETS 0 .. 3 are LOST (at first)");
        for (int s = 0; s <= 3; s++) {
            due("lose(" + s + ")", new MiddleQueue().lose(s), NULL);
            due("read(" + s + ")", new MiddleQueue().read(s), NULL);
            due("write(0, " + s + ")", new MiddleQueue().write(0, s), NULL);
            due("copy upon itself", new MiddleQueue().copy(s, 0, s, 0, 0), NULL);
            for (int form = 0; form <= 2; form++) {
                due("put(" + s + ")", new MiddleQueue().put(s, form, 0, 0), NULL);
                MiddleQueue x = new MiddleQueue();
                due("get(" + s + ")", x.get(s, form, 0), LEAST);
                findingIs(x, 1);
            }
            MiddleQueue x = new MiddleQueue();
            due("sheet(" + s + ")", x.sheet(s, 2 - s % 3, 1), 1);
            for (int other = 0; other <= 3; other++) {
                due("lose(" + other + ")", x.lose(other), other == s ? 1 : NULL);
            }
        }
        MiddleQueue x = new MiddleQueue();
        due("sheet(-1)", x.sheet(-1, 0, 0), BAD);
        due("sheet(4)", x.sheet(4, 0, 0), BAD);
        due("form -1", x.sheet(0, -1, 0), BAD);
        due("form 3", x.sheet(0, 3, 0), BAD);
        findingIs(x, 0);
    }

    private static void sixtyItems() {
        about("of 0 to 60 items (0 at first); BAD: above 60; SIZE: below 0");
        for (int form = BYTES; form <= INTS; form++) {
            for (int n = 0; n <= 60; n++) {
                MiddleQueue x = new MiddleQueue();
                due("sheet of " + n, x.sheet(1, form, n), n);
                for (int i = 0; i < n; i++) {
                    due("item " + i + " of " + n, x.get(1, form, i), 0);
                }
                findingIs(x, 0);
                due("item -1", x.get(1, form, -1), LEAST);
                findingIs(x, 2);
                due("item " + n + " of " + n, x.get(1, form, n), LEAST);
                findingIs(x, 2);
                due("put item -1", x.put(1, form, -1, 1), INDEX);
                due("put item " + n, x.put(1, form, n, 1), INDEX);
                due("put the last one", x.put(1, form, n - 1, 5), n == 0 ? INDEX : 1);
                due("the last one", x.get(1, form, n - 1), n == 0 ? LEAST : 5);
                due("lose", x.lose(1), n);
            }
            MiddleQueue x = new MiddleQueue();
            due("sheet of 61", x.sheet(1, form, 61), BAD);
            due("sheet of the greatest int", x.sheet(1, form, MOST), BAD);
            findingIs(x, 0);
            due("sheet of -1", x.sheet(1, form, -1), SIZE);
            findingIs(x, 5);
            due("sheet of the least int", x.sheet(1, form, LEAST), SIZE);
            due("it is LOST still", x.lose(1), NULL);
        }
    }

    private static void aNewRow() {
        about("A SHEET is a new row of a FORM with n items");
        MiddleQueue x = new MiddleQueue();
        fill(x, 0, INTS, SIXTY);
        due("61 in place of them", x.sheet(0, INTS, 61), BAD);
        due("-1 in place of them", x.sheet(0, INTS, -1), SIZE);
        items(x, 0, INTS, SIXTY);
        due("fewer", x.sheet(0, INTS, 2), 2);
        items(x, 0, INTS, 0, 0, LEAST, LEAST);
        due("more again", x.sheet(0, INTS, 60), 60);
        items(x, 0, INTS, new int[60]);
        due("of another form", x.sheet(0, BYTES, 3), 3);
        due("get as ints", x.get(0, INTS, 0), LEAST);
        findingIs(x, 3);
        items(x, 0, BYTES, 0, 0, 0, LEAST);
        x.put(0, BYTES, 2, 9);
        due("the same again", x.sheet(0, BYTES, 3), 3);
        items(x, 0, BYTES, 0, 0, 0);
    }

    private static void lost() {
        about("It is LOST: how many items it had; a row of 0 items is not LOST");
        MiddleQueue x = new MiddleQueue();
        for (int n : new int[] {0, 1, 60}) {
            x.sheet(3, SHORTS, n);
            due("lose of " + n, x.lose(3), n);
            due("lose again", x.lose(3), NULL);
            findingIs(x, 1);
        }
        x.sheet(3, SHORTS, 0);
        due("read of a row of 0", x.read(3), 0);
        due("write to a row of 0", x.write(0, 3), 0);
        due("copy upon a row of 0", x.copy(3, 0, 3, 0, 0), 1);
        due("get of a row of 0", x.get(3, SHORTS, 0), LEAST);
        findingIs(x, 2);
        x.sheet(3, SHORTS, 2);
        x.put(3, SHORTS, 1, 7);
        x.lose(3);
        x.sheet(3, SHORTS, 2);
        items(x, 3, SHORTS, 0, 0, LEAST);
    }

    private static void itemsOfAForm() {
        about("Item i, treated as of a FORM, becomes v: 1");
        MiddleQueue x = new MiddleQueue();
        for (int s = 0; s <= 3; s++) {
            x.sheet(s, s % 3, 60);
        }
        for (int s = 0; s <= 3; s++) {
            for (int i : new int[] {0, 1, 30, 58, 59}) {
                due("put", x.put(s, s % 3, i, 10 * s + i), 1);
            }
        }
        for (int s = 0; s <= 3; s++) {
            for (int i = 0; i < 60; i++) {
                boolean was = i < 2 || i == 30 || i > 57;
                due("item " + i + " of " + s, x.get(s, s % 3, i), was ? 10 * s + i : 0);
            }
        }
        findingIs(x, 0);
    }

    private static void lowestBits() {
        about("the lowest bits that it has, with its sign");
        int[][] bytes = {{0, 0}, {1, 1}, {-1, -1}, {126, 126}, {127, 127}, {128, -128}, {129, -127}, {255, -1},
            {256, 0}, {257, 1}, {-127, -127}, {-128, -128}, {-129, 127}, {-256, 0}, {-257, -1}, {32767, -1},
            {32768, 0}, {65535, -1}, {0x12345680, -128}, {0x1234567F, 127}, {MOST, -1}, {LEAST, 0}};
        int[][] shorts = {{0, 0}, {127, 127}, {128, 128}, {-129, -129}, {255, 255}, {32766, 32766}, {32767, 32767},
            {32768, -32768}, {32769, -32767}, {65535, -1}, {65536, 0}, {65537, 1}, {-32767, -32767},
            {-32768, -32768}, {-32769, 32767}, {-65536, 0}, {-65537, -1}, {0x12348000, -32768}, {MOST, -1},
            {LEAST, 0}};
        int[][] ints = {{0, 0}, {128, 128}, {-129, -129}, {32768, 32768}, {-32769, -32769}, {65536, 65536},
            {MOST - 1, MOST - 1}, {MOST, MOST}, {LEAST, LEAST}, {LEAST + 1, LEAST + 1}, {-1, -1}};
        int[][][] all = {bytes, shorts, ints};
        MiddleQueue x = new MiddleQueue();
        for (int form = BYTES; form <= INTS; form++) {
            x.sheet(0, form, 1);
            for (int[] pair : all[form]) {
                due("put " + pair[0], x.put(0, form, 0, pair[0]), 1);
                due("form " + form + " of " + pair[0], x.get(0, form, 0), pair[1]);
            }
        }
        findingIs(x, 0);
    }

    private static void castAheadOfIndex() {
        about("CAST: it has another FORM; ahead of INDEX, and behind NULL");
        for (int own = BYTES; own <= INTS; own++) {
            for (int form = BYTES; form <= INTS; form++) {
                for (int i : new int[] {-1, 0, 4, 5, MOST, LEAST}) {
                    MiddleQueue x = new MiddleQueue();
                    x.sheet(2, own, 5);
                    int finding = own != form ? 3 : i < 0 || i > 4 ? 2 : 0;
                    due("put", x.put(2, form, i, 7), finding == 0 ? 1 : -10 - finding);
                    findingIs(x, finding);
                    x = new MiddleQueue();
                    x.sheet(2, own, 5);
                    due("get", x.get(2, form, i), finding == 0 ? 0 : LEAST);
                    findingIs(x, finding);
                }
            }
        }
    }

    private static void copies() {
        about("n items of SHEET s, from i on, come to SHEET t, from j on: 1");
        for (int n : new int[] {0, 1, 2, 30, 59, 60}) {
            MiddleQueue x = new MiddleQueue();
            fill(x, 0, INTS, SIXTY);
            x.sheet(1, INTS, 60);
            due("copy " + n, x.copy(0, 60 - n, 1, 0, n), 1);
            for (int i = 0; i < 60; i++) {
                due("item " + i + " of " + n, x.get(1, INTS, i), i < n ? 160 - n + i : 0);
            }
            items(x, 0, INTS, SIXTY);
        }
        MiddleQueue x = new MiddleQueue();
        fill(x, 3, BYTES, 1, -2, 3);
        x.sheet(2, BYTES, 5);
        due("from the last sheet", x.copy(3, 1, 2, 3, 2), 1);
        items(x, 2, BYTES, 0, 0, 0, -2, 3);
        findingIs(x, 0);
    }

    private static void copiesAtTheEnds() {
        about("INDEX: i, j or n below 0, not so many there (of n 0, too: i or j above the size)");
        for (int i = -1; i <= 6; i++) {
            for (int j = -1; j <= 4; j++) {
                for (int n = -1; n <= 6; n++) {
                    boolean there = i >= 0 && j >= 0 && n >= 0 && i + n <= 5 && j + n <= 3;
                    copyOf(there, i, j, n);
                }
            }
        }
        int[][] wraps = {{1, 0, MOST}, {0, 1, MOST}, {MOST, 0, 1}, {0, MOST, 1}, {MOST, MOST, MOST}, {MOST, 0, 0},
            {0, MOST, 0}, {LEAST, 0, 0}, {0, LEAST, 0}, {0, 0, LEAST}, {LEAST, LEAST, LEAST}, {3, 3, LEAST},
            {LEAST, 0, MOST}, {0, 0, MOST}, {5, 3, MOST}, {-1, -1, 2}};
        for (int[] row : wraps) {
            copyOf(false, row[0], row[1], row[2]);
        }
        about("INDEX of a row of 0 items");
        MiddleQueue x = new MiddleQueue();
        x.sheet(0, SHORTS, 0);
        x.sheet(1, SHORTS, 0);
        due("nothing", x.copy(0, 0, 1, 0, 0), 1);
        due("one", x.copy(0, 0, 1, 0, 1), INDEX);
        due("from 1", x.copy(0, 1, 1, 0, 0), INDEX);
        due("to 1", x.copy(0, 0, 1, 1, 0), INDEX);
    }

    private static void copyOf(boolean there, int i, int j, int n) {
        MiddleQueue x = new MiddleQueue();
        fill(x, 0, SHORTS, 10, 11, 12, 13, 14);
        fill(x, 1, SHORTS, 20, 21, 22);
        String told = "copy(0, " + i + ", 1, " + j + ", " + n + ")";
        due(told, x.copy(0, i, 1, j, n), there ? 1 : INDEX);
        findingIs(x, there ? 0 : 2);
        items(x, 0, SHORTS, 10, 11, 12, 13, 14);
        for (int k = 0; k < 3; k++) {
            due("item " + k + " behind " + told, x.get(1, SHORTS, k), there && k >= j && k < j + n ? 10 + i + k - j : 20 + k);
        }
    }

    private static void copiesUponItself() {
        about("SHEET t (perhaps s, as they were)");
        for (int i = 0; i <= 6; i++) {
            for (int j = 0; j <= 6; j++) {
                for (int n = 0; n <= 6 - Math.max(i, j); n++) {
                    MiddleQueue x = new MiddleQueue();
                    fill(x, 0, BYTES, 0, 1, 2, 3, 4, 5);
                    due("copy", x.copy(0, i, 0, j, n), 1);
                    for (int k = 0; k < 6; k++) {
                        due("item " + k + " of copy(0, " + i + ", 0, " + j + ", " + n + ")", x.get(0, BYTES, k),
                                k >= j && k < j + n ? i + k - j : k);
                    }
                }
            }
        }
    }

    private static void copiesOfForms() {
        about("STORE: unlike FORMS, behind NULL, ahead of INDEX");
        for (int one = BYTES; one <= INTS; one++) {
            for (int other = BYTES; other <= INTS; other++) {
                MiddleQueue x = new MiddleQueue();
                x.sheet(0, one, 2);
                x.sheet(1, other, 2);
                due("copy of 1", x.copy(0, 0, 1, 0, 1), one == other ? 1 : STORE);
                findingIs(x, one == other ? 0 : 4);
                due("copy of 0", x.copy(0, 0, 1, 0, 0), one == other ? 1 : STORE);
                due("copy of -1", x.copy(0, 0, 1, 0, -1), one == other ? INDEX : STORE);
                due("copy of 3", x.copy(0, 0, 1, 0, 3), one == other ? INDEX : STORE);
                x.lose(1);
                due("copy to a LOST one", x.copy(0, 0, 1, 0, -1), NULL);
                due("copy from a LOST one", x.copy(1, 0, 0, 0, -1), NULL);
                findingIs(x, 1);
                due("BAD ahead of NULL", x.copy(1, 0, 4, 0, 0), BAD);
                due("BAD ahead of NULL", x.copy(-1, 0, 1, 0, 0), BAD);
                findingIs(x, 1);
            }
        }
    }

    private static void writes() {
        about("write: as many as there are items, 12 at most: how many");
        for (int there : new int[] {0, 1, 5, 11, 12}) {
            for (int n : new int[] {0, 1, 2, 11, 12, 13, 60}) {
                MiddleQueue x = told(times("xm9", there), SHUT);
                x.sheet(0, INTS, n);
                for (int i = 0; i < n; i++) {
                    x.put(0, INTS, i, 100 + i);
                }
                due("write to " + n, x.write(23, 0), Math.min(n, 12));
                for (int i = 0; i < n; i++) {
                    due("item " + i + " of " + n + ", " + there + " there", x.get(0, INTS, i),
                            i >= 12 ? 100 + i : i < there ? i : NONE);
                }
                due("write of nobody", x.write(22, 0), Math.min(n, 12));
                due("the first one", x.get(0, INTS, 0), n == 0 ? LEAST : NONE);
                due("lose", x.lose(0), n);
            }
        }
        MiddleQueue x = told("am9", SHUT);
        x.sheet(3, INTS, 1);
        due("write(0, 3)", x.write(0, 3), 1);
        due("write(23, 3)", x.write(23, 3), 1);
        due("write(24, 3)", x.write(24, 3), BAD);
        due("write(-1, 3)", x.write(-1, 3), BAD);
        due("write(0, 4)", x.write(0, 4), BAD);
        due("write(0, -1)", x.write(0, -1), BAD);
        due("write(24, 2): BAD ahead of NULL", x.write(24, 2), BAD);
        findingIs(x, 0);
        due("write(0, 2)", x.write(0, 2), NULL);
        findingIs(x, 1);
    }

    private static void writesTheLowestBits() {
        about("with its sign; by write(), too");
        for (int form = BYTES; form <= INTS; form++) {
            MiddleQueue x = told(times("am9", 11), SHUT);
            x.sheet(0, form, 12);
            due("write", x.write(0, 0), 12);
            items(x, 0, form, 0, 1, 2, 3, 4, 5, 6, 7, 8, 9, 10, -1);
        }
    }

    private static void reads() {
        about("read: its items, three for each, as many as are whole");
        for (int n = 0; n <= 60; n++) {
            MiddleQueue x = new MiddleQueue();
            x.sheet(0, n % 3, n);
            due("read of " + n, x.read(0), Math.min(8, n / 3));
            due("count(4)", x.count(4), Math.min(8, n / 3));
            findingIs(x, 0);
        }
        MiddleQueue x = told("am9;am9;am9", SHUT);
        fill(x, 3, INTS, 1, 5, 2, 0, 5, 0, 2, 6);
        due("read(3)", x.read(3), 2);
        queue(x, 4, 0, 1, 2);
        queue(x, 5, 2, 1);
        queue(x, 6, 2, 1);
        due("read(-1)", x.read(-1), BAD);
        due("read(4)", x.read(4), BAD);
        findingIs(x, 0);
        due("read(2)", x.read(2), NULL);
        findingIs(x, 1);
        items(x, 3, INTS, 1, 5, 2, 0, 5, 0, 2, 6, LEAST);
    }

    private static void readsUpToTheEighth() {
        about("read: EVENTS more, behind those that there are; 8 at most");
        for (int there = 0; there <= 8; there++) {
            for (int events = 0; events <= 10; events++) {
                MiddleQueue x = told("am9;am9", SHUT);
                for (int e = 0; e < there; e++) {
                    x.event(2, 1, 0);
                }
                x.sheet(0, INTS, 3 * events);
                for (int e = 0; e < events; e++) {
                    x.put(0, INTS, 3 * e, 2);
                    x.put(0, INTS, 3 * e + 1, 1);
                    x.put(0, INTS, 3 * e + 2, 1);
                }
                int takes = Math.min(events, 8 - there);
                due("read of " + events + " behind " + there, x.read(0), takes);
                due("count(4)", x.count(4), there + takes);
                due("the last one of minute 1", x.stands(1, 1), takes > 0 ? 1 : there > 0 ? 0 : 1);
                for (int left = there + takes - 1; left >= 0; left--) {
                    due("back()", x.back(), left);
                    due("the last one then", x.stands(1, 1), left > there ? 1 : left > 0 ? 0 : 1);
                }
                findingIs(x, 0);
            }
        }
    }

    private static void readsUpToTheFirstRefused() {
        about("read: one by one as event() takes them, up to the first that it refuses");
        int[][] edges = {{0, 0, 0}, {2, 23, 11}};
        int[][] beyond = {{-1, 0, 0}, {3, 0, 0}, {0, -1, 0}, {0, 24, 0}, {0, 0, -1}, {0, 0, 12}, {MOST, 0, 0},
            {0, LEAST, 0}};
        for (int ahead = 0; ahead <= 4; ahead++) {
            for (int[] bad : beyond) {
                MiddleQueue x = new MiddleQueue();
                x.sheet(0, INTS, 15);
                for (int e = 0; e < 5; e++) {
                    int[] row = e == ahead ? bad : edges[e % 2];
                    for (int k = 0; k < 3; k++) {
                        x.put(0, INTS, 3 * e + k, row[k]);
                    }
                }
                due("read to the bad one of number " + ahead, x.read(0), ahead);
                due("count(4)", x.count(4), ahead);
                findingIs(x, 0);
            }
        }
        about("read: as many as it took have come, and count as told");
        MiddleQueue x = told("am9;am9;am9", SHUT);
        fill(x, 0, BYTES, 2, 1, 0, 3, 1, 1, 2, 1, 1);
        due("read(0)", x.read(0), 1);
        queue(x, 1, 1, 2, 0);
        due("read(0) again", x.read(0), 1);
        due("count(4)", x.count(4), 2);
        fill(x, 0, BYTES, 3, 1, 1);
        due("read of none", x.read(0), 0);
        queue(x, 1, 1, 2, 0);
    }

    private static void readsNegatives() {
        about("read: of bytes and shorts with their sign");
        MiddleQueue x = new MiddleQueue();
        fill(x, 0, BYTES, 0, 0, 256 + 11, 0, 0, 128);
        due("read of bytes", x.read(0), 1);
        fill(x, 0, SHORTS, 0, 0, 65536 + 11, 0, 0, 256 + 11);
        due("read of shorts", x.read(0), 1);
        fill(x, 0, SHORTS, 0, 65535, 0);
        due("read of -1", x.read(0), 0);
        fill(x, 0, INTS, 65536, 0, 0);
        due("read of ints", x.read(0), 0);
        due("count(4)", x.count(4), 2);
    }

    private static void counts() {
        about("count: 0 PEOPLE, 1 WINDOWS told, 2, 3 bytes of texts, 4 EVENTS, 5 SERVED, 6 stand, 7 SEEN, 8 FINDING");
        MiddleQueue x = new MiddleQueue();
        countsAre(x, 0, 0, 0, 0, 0, 0, 0, 0, 0);
        due("count(-1)", x.count(-1), BAD);
        due("count(9)", x.count(9), BAD);
        countsAre(told(times("am1", 12), SHUT), 12, 24, 47, 24, 0, 0, 12, 0, 0);
        countsAre(told(times("am1", 12), ""), 12, 0, 47, 0, 0, 12, 0, 0, 0);
        countsAre(told(times("xm1", 12), ""), 12, 0, 47, 0, 0, 1, 11, 0, 0);
        x = told("am1;am9;am2", "t");
        countsAre(x, 3, 1, 11, 1, 0, 3, 0, 0, 0);
        x.event(0, 10, 1);
        countsAre(x, 3, 1, 11, 1, 1, 3, 0, 0, 0);
        x.event(0, 5, 1);
        countsAre(x, 3, 1, 11, 1, 2, 2, 0, 0, 0);
        x.event(0, 1, 2);
        countsAre(x, 3, 1, 11, 1, 3, 1, 0, 0, 0);
        x.seen(0, 0, 0);
        x.lose(3);
        countsAre(x, 3, 1, 11, 1, 3, 1, 0, 1, 1);
        x.type(0, 'a');
        x.type(1, 'a');
        countsAre(x, 0, 0, 12, 2, 3, 0, 0, 1, 1);
    }

    private static void countsAre(MiddleQueue x, int... want) {
        for (int what = 0; what <= 8; what++) {
            due("count(" + what + ")", x.count(what), want[what]);
        }
    }

    private static void latestFinding() {
        about("8 the number of the latest FINDING (0 before any)");
        MiddleQueue x = told("am1", "");
        findingIs(x, 0);
        due("SIZE", x.sheet(0, 0, -1), SIZE);
        findingIs(x, 5);
        due("NULL", x.lose(0), NULL);
        findingIs(x, 1);
        x.sheet(0, BYTES, 1);
        x.sheet(1, INTS, 1);
        findingIs(x, 1);
        due("STORE", x.copy(0, 0, 1, 0, 1), STORE);
        findingIs(x, 4);
        due("CAST", x.put(0, INTS, 0, 1), CAST);
        findingIs(x, 3);
        due("INDEX", x.put(0, BYTES, 1, 1), INDEX);
        findingIs(x, 2);
        due("CAST by get()", x.get(1, BYTES, 1), LEAST);
        findingIs(x, 3);
        due("INDEX by get()", x.get(1, INTS, 1), LEAST);
        findingIs(x, 2);
        due("BAD", x.get(4, INTS, 1), LEAST);
        due("BAD", x.sheet(4, INTS, -1), BAD);
        due("BAD", x.read(4), BAD);
        due("NOT", x.back(), NOT);
        due("none", x.put(0, BYTES, 0, 3), 1);
        due("none", x.get(0, BYTES, 0), 3);
        x.wipe(0);
        x.wipe(1);
        x.forget();
        findingIs(x, 2);
        due("NULL by get()", x.get(2, BYTES, 0), LEAST);
        findingIs(x, 1);
    }

    private static void digestOfNothing() {
        about("digest() of a new object: h is 17; h becomes 31 h and each of");
        long h = 17;
        int[] ahead = {0, 0, 0, 0, 0, 0, 0, 0, -1, -1};
        int[] minute = {1, 0, -1, -1};
        int[] behind = {-1, -1, 0, 0, 0, -1, -1, 0, -1, 0, 0, 0};
        for (int value : ahead) {
            h = 31 * h + value;
        }
        for (int m = 0; m < 24; m++) {
            for (int value : minute) {
                h = 31 * h + value;
            }
        }
        for (int value : behind) {
            h = 31 * h + value;
        }
        due("digest()", new MiddleQueue().digest(), h);
    }

    private static void digestOfAll() {
        about("digest(): each of these, as longs that wrap");
        for (int many = 1; many <= 12; many++) {
            digestIs(told(times("ap1", many), ""));
            digestIs(told(times("xm9", many), SHUT));
            digestIs(told(times("cw3", many), "tbftbftbn"));
        }
        MiddleQueue x = told(times("bp2", 12), "tbftbftbn");
        for (int e = 0; e < 8; e++) {
            x.event(e % 3, 3 * e, e + 4);
        }
        x.seen(7, 0, 11);
        digestIs(x);
        // The faults of the two texts, each alone.
        digestIs(told("ap1;bp3;c", "nnf"));
        digestIs(told("ap1;bp3;cm2", "nnfx"));
        digestOfJustThese();
    }

    // Where open(), let(), spare() and decades() answer otherwise by the numbers beside those of the digest.
    private static void digestOfJustThese() {
        MiddleQueue x = told("im1", SHUT);
        x.event(0, 9, 0);
        unlike("open", x.open(8, 0), x.open(7, 0), x.open(9, 0));
        unlike("open", x.open(8, 1), x.open(7, 1), x.open(9, 1));
        digestIs(x);
        x = told("am9;hm1", only(8, 'f'));
        unlike("let", x.let(8, 0), x.let(7, 0), x.let(9, 0));
        unlike("let", x.let(8, 1), x.let(7, 1), x.let(9, 1));
        digestIs(x);
        x = told("am1;am9", only(5, 'f'));
        x.event(2, 4, 0);
        x.event(0, 10, 1);
        unlike("spare", x.spare(0), x.spare(1), x.spare(NONE));
        digestIs(x);
        x = told("cp7;am8;ap9;jw3;ew1;fp4;cw5", "nnbnbnnnbnnnfntfnnnntttn");
        for (int what = 0; what <= 1; what++) {
            unlike("decades", x.decades(7, 6, what), x.decades(6, 6, what), x.decades(8, 6, what));
            unlike("decades", x.decades(7, 6, what), x.decades(7, 5, what), x.decades(7, 7, what));
        }
        digestIs(x);
    }

    private static void unlike(String what, int one, int other, int third) {
        due(what + " is like the one beside it", one == other || one == third ? 1 : 0, 0);
    }

    private static void digestIs(MiddleQueue x) {
        due("digest()", x.digest(), digestOf(x));
    }
}
