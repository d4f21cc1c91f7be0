import java.util.ArrayList;
import java.util.Arrays;
import java.util.List;

// Every number that a call takes, at its two edges and beyond them, and that a refused call changes nothing.
public final class RefusalTest extends Checks {
    private static final int[] ANY = {Integer.MIN_VALUE, Integer.MAX_VALUE};
    private static final int[] TEXT = {0, 1}, MINUTE = {0, 23}, PLACE = {0, 11}, SHEET = {0, 3}, FORM = {0, 2};
    private static final int[] TWO = {0, 1}, THREE = {0, 2};
    // So that a scene's calls, these and those that learn of the object stay under the 512 promised.
    private static final int MOST_REFUSED = 40;

    interface Call {
        long on(MiddleQueue x, int[] a);
    }

    /** A call, and of each number that it takes the least and the greatest that are not refused. */
    record Act(String name, Call call, int[]... ranges) {
        boolean takes(int[] numbers) {
            for (int k = 0; k < numbers.length; k++) {
                if (numbers[k] < ranges[k][0] || numbers[k] > ranges[k][1]) {
                    return false;
                }
            }
            return !name.equals("apart") || numbers[1] != numbers[2];
        }

        long refusal() {
            return name.equals("get") ? LEAST : name.equals("chance") ? LONG_BAD : BAD;
        }

        String told(int[] numbers) {
            return name + Arrays.toString(numbers);
        }
    }

    public static void main(String[] args) {
        about("FINDINGS, ahead of the refusals");
        for (int scene = 0; scene < Scenes.ALL; scene++) {
            due("count(8) of scene " + scene, Scenes.make(scene).count(8), Scenes.latestFinding(scene));
        }
        about("BAD: a number not as told, no such thing; at the edges it is taken");
        for (int scene = 0; scene < Scenes.ALL; scene++) {
            for (Act act : acts(Scenes.people(scene))) {
                sweep(scene, act);
            }
        }
        otherRefusals();
        end("what is refused changes nothing");
    }

    private static List<Act> acts(int people) {
        int[] person = {0, people - 1};
        List<Act> acts = new ArrayList<>();
        acts.add(new Act("type", (x, a) -> x.type(a[0], a[1]), TEXT, new int[] {0, 255}));
        acts.add(new Act("wipe", (x, a) -> x.wipe(a[0]), TEXT));
        acts.add(new Act("undo", (x, a) -> x.undo(a[0]), TEXT));
        acts.add(new Act("fault", (x, a) -> x.fault(a[0]), TEXT));
        acts.add(new Act("person", (x, a) -> x.person(a[0], a[1]), person, THREE));
        acts.add(new Act("window", (x, a) -> x.window(a[0]), MINUTE));
        acts.add(new Act("event", (x, a) -> x.event(a[0], a[1], a[2]), THREE, MINUTE, PLACE));
        acts.add(new Act("read", (x, a) -> x.read(a[0]), SHEET));
        acts.add(new Act("stands", (x, a) -> x.stands(a[0], a[1]), MINUTE, PLACE));
        acts.add(new Act("many", (x, a) -> x.many(a[0]), MINUTE));
        acts.add(new Act("at", (x, a) -> x.at(a[0], a[1], a[2]), MINUTE, person, THREE));
        acts.add(new Act("apart", (x, a) -> x.apart(a[0], a[1], a[2]), MINUTE, person, person));
        acts.add(new Act("done", (x, a) -> x.done(a[0], a[1]), person, THREE));
        acts.add(new Act("alfred", (x, a) -> x.alfred(a[0]), TWO));
        acts.add(new Act("come", (x, a) -> x.come(a[0], a[1]), person, TWO));
        acts.add(new Act("open", (x, a) -> x.open(a[0], a[1]), MINUTE, TWO));
        acts.add(new Act("let", (x, a) -> x.let(a[0], a[1]), MINUTE, TWO));
        acts.add(new Act("spare", (x, a) -> x.spare(a[0]), new int[] {-1, 1}));
        acts.add(new Act("seen", (x, a) -> x.seen(a[0], a[1], a[2]), MINUTE, PLACE, new int[] {0, 12}));
        acts.add(new Act("was", (x, a) -> x.was(a[0], a[1]), person, TWO));
        acts.add(new Act("ask", (x, a) -> x.ask(a[0]), person));
        acts.add(new Act("chance", (x, a) -> x.chance(a[0], a[1], a[2]), new int[] {0, 16}, person, TWO));
        acts.add(new Act("decades", (x, a) -> x.decades(a[0], a[1], a[2]), ANY, new int[] {0, 8}, TWO));
        acts.add(new Act("sheet", (x, a) -> x.sheet(a[0], a[1], a[2]), SHEET, FORM,
                new int[] {Integer.MIN_VALUE, 60}));
        acts.add(new Act("lose", (x, a) -> x.lose(a[0]), SHEET));
        acts.add(new Act("put", (x, a) -> x.put(a[0], a[1], a[2], a[3]), SHEET, FORM, ANY, ANY));
        acts.add(new Act("get", (x, a) -> x.get(a[0], a[1], a[2]), SHEET, FORM, ANY));
        acts.add(new Act("copy", (x, a) -> x.copy(a[0], a[1], a[2], a[3], a[4]), SHEET, ANY, SHEET, ANY, ANY));
        acts.add(new Act("write", (x, a) -> x.write(a[0], a[1]), MINUTE, SHEET));
        acts.add(new Act("count", (x, a) -> x.count(a[0]), new int[] {0, 8}));
        return acts;
    }

    // Each number in turn at its edges, beyond them and far off, the others at an edge.
    private static void sweep(int scene, Act act) {
        List<int[]> refused = new ArrayList<>();
        for (int sides = 0; sides < 4; sides++) {
            for (int k = 0; k < act.ranges().length; k++) {
                int[] range = act.ranges()[k];
                int[] tried = {range[0], range[1], range[0] - 1, range[1] + 1, Integer.MIN_VALUE, Integer.MAX_VALUE,
                    range[0] + 256, range[1] + 65536, range[1] - 256};
                for (int number : tried) {
                    int[] numbers = atEdges(act, sides);
                    numbers[k] = number;
                    if (!act.takes(numbers)) {
                        refused.add(numbers);
                    } else {
                        taken(scene, act, numbers);
                    }
                }
            }
        }
        for (int from = 0; from < refused.size(); from += MOST_REFUSED) {
            List<int[]> some = refused.subList(from, Math.min(refused.size(), from + MOST_REFUSED));
            changesNothing(scene, act, some);
        }
    }

    // The least int of get() is of a finding, too: one of a new object is to be NULL then, not BAD.
    private static void taken(int scene, Act act, int[] numbers) {
        MiddleQueue x = Scenes.make(scene);
        long answer = act.call().on(x, numbers);
        boolean bad = act.name().equals("get") ? scene == Scenes.NEW && x.count(8) != 1 : answer == act.refusal();
        due(act.told(numbers) + " is refused in scene " + scene, bad ? 1 : 0, 0);
    }

    private static int[] atEdges(Act act, int sides) {
        int[] numbers = new int[act.ranges().length];
        for (int k = 0; k < numbers.length; k++) {
            boolean low = sides == 0 || sides != 1 && (k + sides) % 2 == 0;
            numbers[k] = act.ranges()[k] == ANY ? 0 : act.ranges()[k][low ? 0 : 1];
        }
        return numbers;
    }

    private static void changesNothing(int scene, Act act, List<int[]> refused) {
        for (int part = 0; part < PARTS; part++) {
            MiddleQueue x = Scenes.make(scene);
            for (int[] numbers : refused) {
                due(act.told(numbers) + " in scene " + scene, act.call().on(x, numbers), act.refusal());
            }
            same("behind a refused " + act.name() + " in scene " + scene, learn(x, scene, part),
                    learn(Scenes.make(scene), scene, part));
        }
    }

    // ---- what can be learnt of an object: each part spoils it, so each is asked of another one made alike

    private static final int PARTS = 5;

    private static long[] learn(MiddleQueue x, int scene, int part) {
        List<Long> all = new ArrayList<>();
        for (int what = 0; what <= 8; what++) {
            all.add((long) x.count(what));
        }
        switch (part) {
            case 0: learnDay(x, all); break;
            case 1: learnSheets(x, scene, all); break;
            case 2: learnTexts(x, all); break;
            case 3: learnEvents(x, all); break;
            default: all.add((long) x.forget()); all.add(x.digest()); break;
        }
        return all.stream().mapToLong(Long::longValue).toArray();
    }

    private static void learnDay(MiddleQueue x, List<Long> all) {
        all.add(x.digest());
        for (int minute = 0; minute < 24; minute++) {
            for (int place = 0; place < 12; place++) {
                all.add((long) x.stands(minute, place));
            }
        }
    }

    private static void learnSheets(MiddleQueue x, int scene, List<Long> all) {
        for (int s = 0; s < 4; s++) {
            for (int i = 0; i < 60 && Scenes.form(scene, s) >= 0; i++) {
                all.add((long) x.get(s, Scenes.form(scene, s), i));
            }
            all.add((long) x.lose(s));
        }
    }

    private static void learnTexts(MiddleQueue x, List<Long> all) {
        for (int text = 0; text <= 1; text++) {
            for (int bytes = x.count(2 + text); bytes > 0; bytes--) {
                all.add((long) x.undo(text));
                all.add((long) x.fault(text));
                all.add(bytes % 4 == 0 ? x.digest() : 0);
            }
            all.add((long) x.undo(text));
        }
    }

    private static void learnEvents(MiddleQueue x, List<Long> all) {
        for (int e = x.count(4); e > 0; e--) {
            all.add((long) x.back());
            all.add(x.digest());
        }
        all.add((long) x.back());
    }

    private static void same(String when, long[] got, long[] want) {
        due("how much can be learnt " + when, got.length, want.length);
        for (int i = 0; i < Math.min(got.length, want.length); i++) {
            due("answer " + i + " " + when, got[i], want[i]);
        }
    }

    // ---- refusals of other kinds, each in the scenes where it fits, and in their order

    private static void otherRefusals() {
        about("NOT: it is empty, there is none");
        refused("undo", Scenes.NEW, NOT, 0, 0);
        refused("undo", Scenes.NEW, NOT, 0, 1);
        one("back", Scenes.NEW, NOT, 0, (x, a) -> x.back());
        about("FULL: type, event, seen");
        refused("type", Scenes.FULL, FULL, 0, 0, ';');
        refused("type", Scenes.FULL, FULL, 0, 1, 'f');
        refused("event", Scenes.FULL, FULL, 0, 0, 0, 0);
        refused("event", Scenes.FULL, FULL, 0, 2, 23, 11);
        refused("seen", Scenes.FULL, FULL, 0, 0, 0, 0);
        refused("seen", Scenes.FULL, FULL, 0, 23, 11, 12);
        about("NULL: the SHEET is LOST");
        for (int scene = 0; scene < Scenes.ALL; scene++) {
            for (int s = 0; s < 4; s++) {
                if (Scenes.form(scene, s) < 0) {
                    lost(scene, s);
                } else {
                    stands(scene, s);
                }
            }
        }
        about("SIZE: below 0, and BAD ahead of it");
        for (int n : new int[] {-1, -60, Integer.MIN_VALUE}) {
            refused("sheet", Scenes.NEW, SIZE, 5, 0, 0, n);
            refused("sheet", Scenes.SOME, SIZE, 5, 0, 0, n);
            refused("sheet", Scenes.FULL, SIZE, 5, 3, 2, n);
            refused("sheet", Scenes.FULL, BAD, 0, 4, 2, n);
            refused("sheet", Scenes.FULL, BAD, 0, -1, 2, n);
            refused("sheet", Scenes.FULL, BAD, 0, 3, 3, n);
            refused("sheet", Scenes.FULL, BAD, 0, 3, -1, n);
        }
        copies();
    }

    private static void lost(int scene, int s) {
        refused("read", scene, NULL, 1, s);
        refused("lose", scene, NULL, 1, s);
        for (int form = 0; form <= 2; form++) {
            refused("put", scene, NULL, 1, s, form, 0, 1);
            refused("put", scene, NULL, 1, s, form, -1, 1);
            refused("put", scene, NULL, 1, s, form, 60, 1);
            refused("get", scene, LEAST, 1, s, form, 0);
            refused("get", scene, LEAST, 1, s, form, -1);
            refused("get", scene, LEAST, 1, s, form, 60);
        }
        for (int minute : MINUTE) {
            refused("write", scene, NULL, 1, minute, s);
        }
        for (int t = 0; t < 4; t++) {
            refused("copy", scene, NULL, 1, s, 0, t, 0, 0);
            refused("copy", scene, NULL, 1, t, 0, s, 0, 0);
            refused("copy", scene, NULL, 1, t, -1, s, 99, -1);
        }
        refused("copy", scene, BAD, 0, s, 0, 4, 0, 0);
        refused("copy", scene, BAD, 0, -1, 0, s, 0, 0);
    }

    // CAST ahead of INDEX, and INDEX one beyond either end.
    private static void stands(int scene, int s) {
        int size = Scenes.make(scene).lose(s);
        int own = Scenes.form(scene, s);
        for (int form = 0; form <= 2; form++) {
            for (int i : new int[] {0, -1, size, Integer.MIN_VALUE, Integer.MAX_VALUE}) {
                if (form == own && i == 0 && size > 0) {
                    continue;
                }
                int finding = form == own ? 2 : 3;
                refused("put", scene, -10 - finding, finding, s, form, i, 1);
                refused("get", scene, LEAST, finding, s, form, i);
            }
        }
    }

    private static void copies() {
        about("STORE: unlike FORMS, ahead of INDEX");
        refused("copy", Scenes.SOME, STORE, 4, 0, 0, 1, 0, 0);
        refused("copy", Scenes.SOME, STORE, 4, 2, 0, 0, 0, 1);
        refused("copy", Scenes.SOME, STORE, 4, 1, -1, 2, 61, -1);
        refused("copy", Scenes.FULL, STORE, 4, 2, 0, 1, 0, 1);
        about("INDEX: i, j or n below 0, not so many there");
        int most = Integer.MAX_VALUE;
        // Of the full scene, from 24 bytes to 1 byte, and upon the 60 ints themselves.
        int[][] past = {{-1, 0, 1}, {0, -1, 1}, {0, 0, -1}, {0, 0, 2}, {0, 1, 1}, {24, 0, 1}, {25, 0, 0}, {0, 2, 0},
            {-1, 0, 0}, {0, -1, 0}, {most, 0, 0}, {0, most, 0}, {0, 0, most}, {most, 0, 1}, {1, 0, most},
            {0, 1, most}, {most, most, most}, {LEAST, 0, 0}, {0, LEAST, 0}, {0, 0, LEAST}, {LEAST, LEAST, LEAST}};
        for (int[] row : past) {
            refused("copy", Scenes.FULL, INDEX, 2, 2, row[0], 3, row[1], row[2]);
        }
        int[][] upon = {{0, 0, 61}, {1, 0, 60}, {0, 1, 60}, {61, 0, 0}, {0, 61, 0}, {60, 0, 1}, {0, 60, 1}};
        for (int[] row : upon) {
            refused("copy", Scenes.FULL, INDEX, 2, 0, row[0], 0, row[1], row[2]);
        }
    }

    private static void refused(String name, int scene, long want, int finding, int... numbers) {
        for (Act act : acts(Scenes.people(scene))) {
            if (act.name().equals(name)) {
                one(act.told(numbers), scene, want, finding, act.call(), numbers);
            }
        }
    }

    // Of a finding count(8) tells, and it alone; of any other refusal it tells what it told.
    private static void one(String told, int scene, long want, int finding, Call call, int... numbers) {
        String when = told + " in scene " + scene;
        for (int part = 0; part < PARTS; part++) {
            MiddleQueue x = Scenes.make(scene);
            due(when, call.on(x, numbers), want);
            due("count(8) behind " + when, x.count(8), finding == 0 ? Scenes.latestFinding(scene) : finding);
            long[] got = learn(x, scene, part);
            long[] were = learn(Scenes.make(scene), scene, part);
            got[8] = were[8];
            same("behind " + when, got, were);
        }
    }
}
