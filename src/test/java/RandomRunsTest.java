import java.util.ArrayList;
import java.util.List;
import java.util.Map;
import java.util.Random;
import java.util.TreeMap;

/** Runs of calls by fixed seeds, each answer and all that can be seen compared with the Oracle's; none may throw. */
final class RandomRunsTest {
    private static final Check CHECK = new Check("RandomRunsTest");
    private static final int RUNS = 1000;
    /** So many calls are kept for the end, and so many are needed for one more call and what it shows. */
    private static final int LAST = 45;
    private static final int MORE = 40;
    private static final int[] WILD = {Integer.MIN_VALUE, Integer.MIN_VALUE + 1, -65536, -101, -5, -3, -2, -1, 0, 10, 21,
        73, 241, 65536, 1 << 28, 1 << 30, Integer.MAX_VALUE - 1, Integer.MAX_VALUE};
    private static final String[] NAMES = {"building", "wall", "lift", "stay", "step", "far", "dead", "survey", "weight",
        "offset", "alike", "known", "lead", "hear", "share", "likeliest", "within", "sure", "best", "way", "learn",
        "moved", "put", "least", "give", "sheet", "lose", "lay", "get", "copy", "count"};
    private static final int[] OFTEN = {1, 4, 2, 1, 2, 2, 2, 8, 4, 4, 1, 2, 3, 8, 2, 2, 3, 2, 6, 3, 4, 6, 8, 1, 8, 2, 1,
        12, 4, 5, 1};
    private static final Map<String, Integer> MET = new TreeMap<>();
    private static Random random;
    private static Place x;
    private static Oracle due;

    public static void main(String[] args) {
        List<Integer> calls = new ArrayList<>();
        for (int call = 0; call < OFTEN.length; call++) {
            for (int i = 0; i < OFTEN[call]; i++) {
                calls.add(call);
            }
        }
        for (int run = 0; run < RUNS; run++) {
            random = new Random(run);
            x = new Place();
            due = new Oracle();
            prepare();
            while (x.left() > LAST + MORE) {
                call(calls.get(random.nextInt(calls.size())), run);
                CHECK.due("run " + run + ": digest()", x.digest(), due.digest());
                CHECK.due("run " + run + ": count(6)", x.count(6), due.count(6));
            }
            compareAll("run " + run);
        }
        everyAnswerWasMet();
        CHECK.end();
    }

    /** A small building and filled SHEETS, so that most calls meet something. */
    private static void prepare() {
        int floors = 1 + random.nextInt(3);
        int w = 1 + random.nextInt(random.nextInt(4) == 0 ? 6 : 3);
        int h = 1 + random.nextInt(random.nextInt(4) == 0 ? 6 : 3);
        CHECK.due("building", x.building(floors, w, h), due.building(floors, w, h));
        for (int s = 0; s < 3; s++) {
            int form = random.nextInt(3);
            int n = random.nextInt(10) == 0 ? 240 : random.nextInt(45);
            CHECK.due("sheet", x.sheet(s, form, n), due.sheet(s, form, n));
            for (int i = 0; i < Math.min(n, 45); i++) {
                int at = n == 240 ? random.nextInt(n) : i;
                int v = heard();
                CHECK.due("lay", x.lay(s, form, at, v), due.lay(s, form, at, v));
            }
        }
        for (int walker = random.nextInt(20); walker >= 0; walker--) {
            int cell = random.nextInt(floors * w * h);
            CHECK.due("put", x.put(walker, cell), due.put(walker, cell));
        }
    }

    private static int heard() {
        return random.nextInt(12) == 0 ? wild() : random.nextInt(3) == 0 ? random.nextInt(4) : random.nextInt(12) - 2;
    }

    private static int wild() {
        return WILD[random.nextInt(WILD.length)];
    }

    /** Mostly a number from low to high, sometimes one beside them, seldom a wild one. */
    private static int from(int low, int high) {
        int kind = random.nextInt(60);
        if (kind == 0) {
            return wild();
        }
        return kind == 1 ? low - 1 : kind == 2 ? high + 1 : low + random.nextInt(Math.max(1, high - low + 1));
    }

    private static int cell() {
        return from(0, due.count(0) * due.count(1) * due.count(2) - 1);
    }

    private static int beside(int cell) {
        int[] steps = {1, -1, due.count(1), -due.count(1)};
        return random.nextInt(8) == 0 ? cell() : cell + steps[random.nextInt(4)];
    }

    private static void call(int call, int run) {
        int[] a = new int[5];
        boolean is = random.nextInt(3) != 0;
        long got = 0;
        long want = 0;
        switch (NAMES[call]) {
            case "building":
                a = new int[] {from(1, 3), from(1, 6), from(1, 6)};
                got = x.building(a[0], a[1], a[2]);
                want = due.building(a[0], a[1], a[2]);
                break;
            case "wall":
                a[0] = cell();
                a[1] = beside(a[0]);
                got = x.wall(a[0], a[1], is);
                want = due.wall(a[0], a[1], is);
                break;
            case "lift":
                a = new int[] {from(0, due.count(1) - 1), from(0, due.count(2) - 1)};
                got = x.lift(a[0], a[1], is);
                want = due.lift(a[0], a[1], is);
                break;
            case "stay":
                a[0] = random.nextBoolean() ? 0 : from(0, 9);
                got = x.stay(a[0]);
                want = due.stay(a[0]);
                break;
            case "step":
                a[0] = cell();
                a[1] = beside(a[0]);
                got = x.step(a[0], a[1]);
                want = due.step(a[0], a[1]);
                break;
            case "far":
                a = new int[] {cell(), cell()};
                got = x.far(a[0], a[1]);
                want = due.far(a[0], a[1]);
                break;
            case "dead":
                a[0] = from(0, 7);
                got = x.dead(a[0], is);
                want = due.dead(a[0], is);
                break;
            case "survey":
                a = new int[] {from(0, 3), from(0, 7), cell()};
                got = x.survey(a[0], a[1], a[2]);
                want = due.survey(a[0], a[1], a[2]);
                break;
            case "weight":
                a = new int[] {from(0, 7), cell(), from(-1, 9)};
                got = x.weight(a[0], a[1], a[2]);
                want = due.weight(a[0], a[1], a[2]);
                break;
            case "offset":
                a = new int[] {from(0, 3), from(0, 7), cell()};
                got = x.offset(a[0], a[1], a[2]);
                want = due.offset(a[0], a[1], a[2]);
                break;
            case "alike":
                got = x.alike();
                want = due.alike();
                break;
            case "known":
                a[0] = cell();
                got = x.known(a[0]);
                want = due.known(a[0]);
                break;
            case "lead":
                a[0] = random.nextInt(5) == 0 ? from(1, 20) : from(1, 3);
                got = x.lead(a[0]);
                want = due.lead(a[0]);
                break;
            case "hear":
                a = new int[] {from(0, 3), from(0, 7), from(-4, 4)};
                got = x.hear(a[0], a[1], a[2]);
                want = due.hear(a[0], a[1], a[2]);
                break;
            case "share":
                a[0] = cell();
                got = x.share(a[0]);
                want = due.share(a[0]);
                break;
            case "likeliest":
                got = x.likeliest();
                want = due.likeliest();
                break;
            case "within":
                a = area();
                got = x.within(a[0], a[1], a[2], a[3], a[4]);
                want = due.within(a[0], a[1], a[2], a[3], a[4]);
                break;
            case "sure":
                a[0] = random.nextBoolean() ? due.share(0) : from(0, 1000000);
                got = x.sure(a[0]);
                want = due.sure(a[0]);
                break;
            default:
                laterCall(call, run);
                return;
        }
        compare(call, run, a, got, want);
    }

    private static void laterCall(int call, int run) {
        int[] a = new int[5];
        long got = 0;
        long want = 0;
        switch (NAMES[call]) {
            case "best":
                a[0] = from(0, 3);
                got = x.best(a[0]);
                want = due.best(a[0]);
                compareWay("run " + run + ": after best(" + a[0] + ")");
                break;
            case "way":
                a[0] = from(0, 8);
                got = x.way(a[0]);
                want = due.way(a[0]);
                break;
            case "learn":
                a[0] = from(0, 3);
                got = x.learn(a[0]);
                want = due.learn(a[0]);
                compareWay("run " + run + ": after learn(" + a[0] + ")");
                break;
            case "moved":
                a[0] = from(0, 3);
                got = x.moved(a[0]);
                want = due.moved(a[0]);
                compareWay("run " + run + ": after moved(" + a[0] + ")");
                break;
            case "put":
                a = new int[] {from(0, 19), random.nextInt(8) == 0 ? -1 : cell()};
                got = x.put(a[0], a[1]);
                want = due.put(a[0], a[1]);
                break;
            case "least":
                a[0] = random.nextBoolean() ? from(1, 4) : from(1, 20);
                got = x.least(a[0]);
                want = due.least(a[0]);
                break;
            case "give":
                // Many in a row: the AREAS that were GIVEN are forgotten with the next put().
                boolean many = random.nextInt(12) == 0;
                if (many) {
                    CHECK.due("least(1)", x.least(1), due.least(1));
                }
                for (int i = many ? 150 : 3; i > 0 && x.left() > LAST + MORE; i--) {
                    a = area();
                    compare(call, run, a, x.give(a[0], a[1], a[2], a[3], a[4]), due.give(a[0], a[1], a[2], a[3], a[4]));
                }
                return;
            case "sheet":
                a = new int[] {from(0, 3), from(0, 2), random.nextInt(10) == 0 ? 240 : from(0, 50)};
                got = x.sheet(a[0], a[1], a[2]);
                want = due.sheet(a[0], a[1], a[2]);
                break;
            case "lose":
                a[0] = from(0, 3);
                got = x.lose(a[0]);
                want = due.lose(a[0]);
                break;
            case "lay":
                a = new int[] {from(0, 3), from(0, 2), from(0, 60), heard()};
                got = x.lay(a[0], a[1], a[2], a[3]);
                want = due.lay(a[0], a[1], a[2], a[3]);
                break;
            case "get":
                a = new int[] {from(0, 3), from(0, 2), from(0, 60)};
                got = x.get(a[0], a[1], a[2]);
                want = due.get(a[0], a[1], a[2]);
                break;
            case "copy":
                a = new int[] {from(0, 3), from(0, 20), from(0, 3), from(0, 20), from(0, 20)};
                a[2] = random.nextBoolean() ? a[0] : a[2];
                got = x.copy(a[0], a[1], a[2], a[3], a[4]);
                want = due.copy(a[0], a[1], a[2], a[3], a[4]);
                break;
            default:
                a[0] = from(0, 10);
                got = x.count(a[0]);
                want = due.count(a[0]);
                break;
        }
        compare(call, run, a, got, want);
    }

    private static int[] area() {
        int w = due.count(1);
        int h = due.count(2);
        int x0 = from(0, w - 1);
        int y0 = from(0, h - 1);
        return new int[] {from(0, due.count(0) - 1), x0, from(Math.max(0, Math.min(x0, w - 1)), w - 1), y0,
            from(Math.max(0, Math.min(y0, h - 1)), h - 1)};
    }

    private static void compare(int call, int run, int[] a, long got, long want) {
        StringBuilder text = new StringBuilder("run " + run + ": " + NAMES[call] + "(");
        for (int i = 0; i < a.length; i++) {
            text.append(i > 0 ? ", " : "").append(a[i]);
        }
        CHECK.due(text + ")", got, want);
        String kind = want == Integer.MIN_VALUE || want == -100 ? "none" : want < 0 && want > -20 ? "" + want : "some";
        MET.merge(NAMES[call] + " " + kind, 1, Integer::sum);
    }

    private static void compareAll(String where) {
        CHECK.due(where + ": digest()", x.digest(), due.digest());
        for (int what = 0; what <= 10; what++) {
            CHECK.due(where + ": count(" + what + ")", x.count(what), due.count(what));
        }
        for (int i = 0; i <= 30; i++) {
            CHECK.due(where + ": way(" + i + ")", x.way(i), due.way(i));
        }
    }

    /** The way that was told latest, to its end. */
    private static void compareWay(String where) {
        int i = -1;
        do {
            i++;
            CHECK.due(where + ": way(" + i + ")", x.way(i), due.way(i));
        } while (due.way(i) >= 0);
    }

    private static void everyAnswerWasMet() {
        String[] all = {"building -2", "wall -2", "lift -2", "stay -2", "step -2", "far -2", "far -1", "dead -2",
            "survey -2", "survey -11", "survey -12", "weight -2", "offset none", "offset -11", "offset -12", "offset -1",
            "known -2", "lead -2", "hear -2", "hear -11", "hear -12", "hear -3", "share -2", "within -2",
            "sure -2", "best -2", "best -11", "best -3", "way -2", "learn -2", "learn -11", "learn -3", "moved -2",
            "moved -11", "moved -3", "put -1", "put -2", "least -2", "give -2", "give -3", "give -4", "sheet -2",
            "sheet -15", "lose -2", "lose -11", "lay -2", "lay -11", "lay -12", "lay -13", "get none", "copy -2",
            "copy -11", "copy -12", "copy -14", "count -2"};
        for (String answer : all) {
            CHECK.that("the runs meet " + answer, MET.getOrDefault(answer, 0) >= 5);
        }
        for (String name : NAMES) {
            CHECK.that("the runs meet " + name, MET.getOrDefault(name + " some", 0) >= 20);
        }
    }
}
