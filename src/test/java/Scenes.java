/** Objects in the states in which refusals are looked at: new, some of all, full of all, with faults. */
final class Scenes {
    static final int NEW = 0, SOME = 1, FULL = 2, FAULTY = 3, ALL = 4;

    private static final int[] PEOPLE = {0, 3, 12, 0};
    private static final int LOST = -1;
    private static final int[][] FORMS = {{LOST, LOST, LOST, LOST}, {0, 1, 2, LOST}, {2, 1, 0, 0}, {1, LOST, 2, 0}};
    private static final int[] FINDINGS = {0, 4, 5, 3};

    private Scenes() {
    }

    static int people(int scene) {
        return PEOPLE[scene];
    }

    /** The form of a sheet there; -1 is a lost one. */
    static int form(int scene, int s) {
        return FORMS[scene][s];
    }

    static int latestFinding(int scene) {
        return FINDINGS[scene];
    }

    /** Always alike, by at most 170 calls. */
    static MiddleQueue make(int scene) {
        switch (scene) {
            case SOME: return some();
            case FULL: return full();
            case FAULTY: return faulty();
            default: return new MiddleQueue();
        }
    }

    private static MiddleQueue some() {
        MiddleQueue x = Checks.told("ap4;bm2;bw6", "fnt");
        x.event(2, 3, 0);
        x.event(0, 9, 2);
        see(x, 2, 0);
        see(x, 5, 1);
        Checks.fill(x, 0, 0, 1, 6, 1, 0, 24, 0);
        x.sheet(1, 1, 0);
        x.sheet(2, 2, 60);
        x.put(2, 2, 59, 70000);
        x.copy(0, 0, 1, 0, 0);
        return x;
    }

    private static MiddleQueue full() {
        MiddleQueue x = Checks.told("ap3;aw2;bm4;bp1;cp9;cw5;dm2;ep7;fp1;gw3;hm6;ip2", "ntfbnftbfftnbtfnffbtfntf");
        int[][] events = {{1, 2, 2}, {2, 3, 0}, {0, 6, 4}, {1, 9, 7}, {2, 9, 9}, {0, 12, 10}, {1, 15, 5}, {2, 20, 11}};
        for (int[] e : events) {
            x.event(e[0], e[1], e[2]);
        }
        for (int i = 0; i < 8; i++) {
            see(x, 3 * i, i % 4);
        }
        x.sheet(0, 2, 60);
        x.put(0, 2, 0, Integer.MIN_VALUE);
        x.put(0, 2, 59, Integer.MAX_VALUE);
        Checks.fill(x, 1, 1, 300, -300, 7, 0, 0, 0, 0, 0, 0, 0, 0, 9);
        x.sheet(2, 0, 24);
        x.put(2, 0, 23, -128);
        Checks.fill(x, 3, 0, 5);
        x.sheet(3, 0, -1);
        return x;
    }

    private static MiddleQueue faulty() {
        MiddleQueue x = Checks.told("ap4;bm2;cx6;dp1", "fnt?nnn");
        x.event(0, 0, 0);
        x.event(1, 23, 11);
        x.seen(4, 0, 12);
        x.seen(23, 11, 12);
        Checks.fill(x, 0, 1, 2, 2, 2, 0);
        Checks.fill(x, 2, 2, 9, -9);
        x.sheet(3, 0, 0);
        x.put(0, 2, 0, 0);
        return x;
    }

    // What is so, as never() and was() then have something to tell.
    private static void see(MiddleQueue x, int minute, int place) {
        int who = x.stands(minute, place);
        x.seen(minute, place, who < 0 ? 12 : who);
    }
}
