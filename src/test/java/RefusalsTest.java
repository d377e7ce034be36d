import java.util.ArrayList;
import java.util.List;

/**
 * "They change nothing (FINDINGS but count() 6)": after each refused call all that can be seen of an object
 * is compared with a twin that was not asked. What can be seen takes more than 512 calls: so several twins.
 */
final class RefusalsTest {
    private static final Check CHECK = new Check("RefusalsTest");
    /** The latest FINDING in each state below: SIZE. */
    private static final int BEFORE = 5;

    /** Calls that lead to a state, and the size of the building then. */
    private record State(String lines, int floors, int w, int h) {
        int cells() {
            return floors * w * h;
        }
    }

    public static void main(String[] args) {
        State usual = usual();
        refusedOfTheBuilding(usual);
        refusedOfSenders(usual);
        refusedOfShares(usual);
        refusedOfWays(usual);
        refusedOfWalkers(usual);
        refusedOfSheets(usual);
        asked(usual);
        CHECK.end();
    }

    private static void refusedOfTheBuilding(State usual) {
        refusals(usual, "2: building", """
            building(0, 3, 2) = BAD; building(4, 3, 2) = BAD; building(2, 0, 2) = BAD; building(2, 7, 2) = BAD
            building(2, 3, 0) = BAD; building(2, 3, 7) = BAD; building(3, 5, 5) = BAD; building(3, 6, 6) = BAD
            building(MIN, MAX, 1) = BAD
            """);
        refusals(usual, "3: wall", """
            wall(-1, 0, true) = BAD; wall(11, 12, true) = BAD; wall(0, 0, true) = BAD; wall(2, 3, true) = BAD
            wall(0, 4, true) = BAD; wall(5, 11, true) = BAD; wall(0, 2, false) = BAD; wall(-3, 0, false) = BAD
            wall(MIN, MAX, true) = BAD
            """);
        refusals(usual, "3: wall, as it is already", """
            wall(0, 1, true) = 0; wall(1, 0, true) = 0; wall(10, 7, true) = 0; wall(1, 2, false) = 0
            wall(8, 11, false) = 0
            """);
        refusals(usual, "4: lift", """
            lift(-1, 0, true) = BAD; lift(3, 0, true) = BAD; lift(0, -1, false) = BAD; lift(0, 2, true) = BAD
            lift(MIN, MAX, true) = BAD
            """);
        refusals(usual, "4: lift, as it is already", "lift(2, 1, true) = 0; lift(0, 0, false) = 0");
        refusals(usual, "5: stay", "stay(-1) = BAD; stay(10) = BAD; stay(MIN) = BAD; stay(MAX) = BAD");
        refusals(usual, "6: step, 7: far", """
            step(-1, 0) = BAD; step(0, 12) = BAD; far(12, 0) = BAD; far(0, -1) = BAD; far(0, MIN) = BAD
            """);
    }

    private static void refusedOfSenders(State usual) {
        refusals(usual, "8: dead", """
            dead(-1, true) = BAD; dead(8, true) = BAD; dead(-1, false) = BAD; dead(8, false) = BAD
            dead(35, false) = BAD; dead(MAX, true) = BAD
            """);
        refusals(usual, "9: survey", """
            survey(-1, 0, 0) = BAD; survey(4, 0, 0) = BAD; survey(0, 0, -1) = BAD; survey(0, 0, 12) = BAD
            survey(3, 0, 0) = NULL; survey(3, 9, 11) = NULL; survey(0, 3, 0) = INDEX; survey(0, -1, 0) = INDEX
            survey(2, 0, 0) = INDEX; survey(1, 2, 0) = INDEX; survey(0, MAX, 0) = INDEX
            """);
        refusals(usual, "10: weight", """
            weight(-1, 0, 0) = BAD; weight(8, 0, 0) = BAD; weight(0, -1, 0) = BAD; weight(0, 12, 0) = BAD
            weight(0, 0, -2) = BAD; weight(0, 0, 10) = BAD
            """);
        refusals(usual, "11: offset", """
            offset(-1, 0, 0) = -100; offset(4, 0, 0) = -100; offset(0, 0, 12) = -100; offset(3, 0, -1) = -100
            offset(3, 0, 0) = NULL; offset(2, 0, 0) = INDEX; offset(0, 3, 0) = INDEX; offset(0, -1, 0) = INDEX
            """);
    }

    private static void refusedOfShares(State usual) {
        refusals(usual, "13: known", "known(-1) = BAD; known(12) = BAD; known(MIN) = BAD; known(MAX) = BAD");
        refusals(usual, "14: lead", "lead(0) = BAD; lead(21) = BAD; lead(-1) = BAD; lead(MIN) = BAD; lead(MAX) = BAD");
        refusals(usual, "15: hear", """
            hear(-1, 0, 0) = BAD; hear(4, 0, 0) = BAD; hear(0, 0, -5) = BAD; hear(0, 0, 5) = BAD
            hear(3, 0, 5) = BAD; hear(3, 0, 0) = NULL; hear(2, 0, 0) = INDEX; hear(0, 3, 0) = INDEX
            hear(0, -1, 0) = INDEX; hear(1, 2, 4) = INDEX
            """);
        refusals(lost(), "15: hear, LOST", "hear(0, 0, 0) = NOT; hear(0, 0, 4) = NOT; hear(0, 1, 0) = NOT");
        refusals(usual, "16: share, 18: within, 19: sure", """
            share(-1) = BAD; share(12) = BAD; within(2, 0, 0, 0, 0) = BAD; within(0, 1, 0, 0, 0) = BAD
            within(0, 0, 3, 0, 0) = BAD; sure(-1) = BAD; sure(1000001) = BAD
            """);
    }

    private static void refusedOfWays(State usual) {
        refusals(usual, "20: best", "best(-1) = BAD; best(4) = BAD; best(MIN) = BAD; best(3) = NULL; best(2) = NOT");
        refusals(usual, "21: way", "way(-1) = BAD; way(3) = BAD; way(30) = BAD; way(MIN) = BAD; way(MAX) = BAD");
        refusals(usual, "22: learn", """
            learn(-1) = BAD; learn(4) = BAD; learn(MAX) = BAD; learn(3) = NULL; learn(2) = NOT
            """);
        refusals(usual, "23: moved", """
            moved(-1) = BAD; moved(4) = BAD; moved(MAX) = BAD; moved(3) = NULL; moved(2) = NOT
            """);
        refusals(noWay(), "20, 22, 23: there is no way", "best(0) = NOT; learn(0) = NOT; moved(0) = NOT");
    }

    private static void refusedOfWalkers(State usual) {
        refusals(usual, "24: put", """
            put(-1, 0) = BAD; put(20, 0) = BAD; put(0, -2) = BAD; put(0, 12) = BAD; put(20, NONE) = BAD
            put(0, MIN) = BAD; put(0, MAX) = BAD
            """);
        refusals(usual, "25: least", """
            least(0) = BAD; least(21) = BAD; least(-1) = BAD; least(MIN) = BAD; least(MAX) = BAD
            """);
        refusals(usual, "26: give", """
            give(-1, 0, 0, 0, 0) = BAD; give(2, 0, 0, 0, 0) = BAD; give(0, -1, 0, 0, 0) = BAD
            give(0, 1, 0, 0, 0) = BAD; give(0, 0, 3, 0, 0) = BAD; give(0, 0, 0, -1, 0) = BAD
            give(0, 0, 0, 1, 0) = BAD; give(0, 0, 0, 0, 2) = BAD; give(0, 0, 0, 0, 0) = NOT
            give(1, 0, 1, 0, 1) = NOT; give(0, 1, 2, 0, 1) = NOT
            """);
        refusals(usual, "26: give, what was GIVEN already", "give(0, 0, 2, 0, 1) = 3; give(1, 0, 2, 0, 1) = 3");
        refusals(full(), "26: give, FULL", """
            give(0, 0, 0, 0, 2) = FULL; give(0, 0, 0, 0, 1) = NOT; give(1, 0, 5, 0, 5) = FULL
            give(1, 1, 5, 1, 5) = NOT; give(0, 0, 0, 0, 0) = 2
            """);
    }

    private static void refusedOfSheets(State usual) {
        refusals(usual, "27: sheet", """
            sheet(-1, 0, 8) = BAD; sheet(4, 0, 8) = BAD; sheet(0, -1, 8) = BAD; sheet(0, 3, 8) = BAD
            sheet(0, 1, 241) = BAD; sheet(0, 1, -1) = SIZE; sheet(3, 1, -1) = SIZE; sheet(1, 2, MIN) = SIZE
            sheet(4, 0, -1) = BAD
            """);
        refusals(usual, "28: lose", "lose(-1) = BAD; lose(4) = BAD; lose(MAX) = BAD; lose(3) = NULL");
        refusals(usual, "29: lay", """
            lay(-1, 0, 0, 9) = BAD; lay(4, 0, 0, 9) = BAD; lay(0, -1, 0, 9) = BAD; lay(0, 3, 0, 9) = BAD
            lay(3, 0, 0, 9) = NULL; lay(0, 1, 0, 9) = CAST; lay(0, 2, 0, 9) = CAST; lay(1, 2, 99, 9) = CAST
            lay(0, 0, 24, 9) = INDEX; lay(0, 0, -1, 9) = INDEX; lay(2, 2, 7, 9) = INDEX
            """);
        refusals(usual, "30: get", """
            get(-1, 0, 0) = MIN; get(4, 0, 0) = MIN; get(0, -1, 0) = MIN; get(0, 3, 0) = MIN; get(3, 0, 0) = MIN : 1
            get(0, 1, 0) = MIN : 3; get(0, 2, 99) = MIN : 3; get(0, 0, 24) = MIN : 2; get(0, 0, -1) = MIN : 2
            """);
        refusals(usual, "31: copy", """
            copy(-1, 0, 0, 0, 1) = BAD; copy(0, 0, 4, 0, 1) = BAD; copy(3, 0, 0, 0, 1) = NULL
            copy(0, 0, 3, 0, 1) = NULL; copy(0, 0, 1, 0, 1) = STORE; copy(2, 0, 1, 0, 0) = STORE
            copy(0, 0, 0, 1, 24) = INDEX; copy(0, 1, 0, 0, 24) = INDEX; copy(0, -1, 0, 0, 1) = INDEX
            copy(0, 0, 0, 0, -1) = INDEX; copy(1, 18, 1, 0, 0) = INDEX; copy(1, 0, 1, 18, 0) = INDEX
            copy(0, 0, 0, 1, MAX) = INDEX; copy(2, 0, 2, 2, 6) = INDEX
            """);
        refusals(usual, "32: count", "count(-1) = BAD; count(11) = BAD; count(MIN) = BAD; count(MAX) = BAD");
    }

    private static void asked(State usual) {
        refusals(usual, "what only asks changes nothing", """
            step(0, 3) = 2; far(0, 11) = 4; far(6, 0) = 7; weight(0, 2, 5) = 4; offset(0, 1, 2) = 1; likeliest() = 4
            share(4) = 304445; within(0, 0, 2, 0, 1) = 977778; sure(500000) = 3; way(2) = 1; moved(0) = 7
            get(0, 0, 0) = 5; count(3) = 2
            """);
    }

    private static State usual() {
        return new State("""
            building(2, 3, 2); stay(4); wall(0, 1, true); wall(7, 10, true); lift(2, 1, true); dead(3, true); dead(6, true)
            sheet(0, 0, 24); lay(0, 0, 0, 5); lay(0, 0, 1, -1); lay(0, 0, 2, 200); lay(0, 0, 8, 6); lay(0, 0, 9, 9)
            lay(0, 0, 16, 4); lay(0, 0, 23, 127)
            sheet(1, 1, 17); lay(1, 1, 0, 3); lay(1, 1, 7, 32767); lay(1, 1, 8, -1); lay(1, 1, 16, -9)
            sheet(2, 2, 7); lay(2, 2, 6, MAX); sheet(3, 0, 5); lose(3)
            survey(0, 0, 2); survey(0, 0, 2); survey(0, 0, 2); survey(0, 1, 1); survey(0, 2, 1); survey(1, 0, 11)
            survey(1, 1, 0); known(4); lead(2); best(0)
            put(0, 5); put(1, 5); put(2, 1); put(3, 3); put(4, 11); put(5, 11); put(6, 0); put(6, NONE); put(19, 8)
            give(0, 0, 2, 0, 1); give(1, 0, 2, 0, 1); sheet(3, 0, -1)
            """, 2, 3, 2);
    }

    private static State lost() {
        return new State("""
            building(1, 3, 1); sheet(0, 0, 16); lay(0, 0, 8, 4); survey(0, 0, 0); known(2); lead(2); known(1); least(1)
            put(0, 1); give(0, 0, 2, 0, 0); best(0); sheet(3, 0, -1)
            """ + "; survey(0, 0, 0); survey(0, 1, 0)".repeat(9), 1, 3, 1);
    }

    private static State noWay() {
        return new State("""
            building(2, 2, 1); stay(0); wall(0, 1, true); wall(2, 3, true); sheet(0, 1, 16); sheet(1, 1, 8); best(1)
            survey(1, 0, 3); known(2); least(1); put(0, 3); give(1, 0, 1, 0, 0); sheet(3, 0, -1)
            """, 2, 2, 1);
    }

    private static State full() {
        StringBuilder lines = new StringBuilder("building(2, 6, 6); least(2); put(0, 0); put(1, 0); put(2, 36); put(3, 36)");
        lines.append("; give(0, 0, 0, 0, 0)");
        for (int i = 0; i < 25; i++) {
            lines.append("; give(0, 0, ").append(1 + i % 5).append(", 0, ").append(1 + i / 5).append(")");
        }
        lines.append("; give(1, 0, 1, 0, 1); give(1, 0, 2, 0, 1); give(1, 0, 1, 0, 2); give(1, 0, 2, 0, 2); sheet(3, 0, -1)");
        return new State(lines.toString(), 2, 6, 6);
    }

    private static void refusals(State state, String name, String calls) {
        CHECK.sentence("Terms: refusals change nothing; " + name);
        List<String> probes = probes(state);
        List<Long> before = seen(state, probes, null);
        for (String told : calls.strip().split("[;\n] *")) {
            String[] halves = told.split(" = ");
            String[] answer = halves[1].split(" : ");
            int finding = answer.length > 1 ? Integer.parseInt(answer[1]) : findingOf(answer[0]);
            Run run = new Run(CHECK).prepared(state.lines).calls("count(6) = " + BEFORE);
            run.calls(halves[0] + " = " + answer[0]).due("count(6)", finding);
            List<Long> after = seen(state, probes, halves[0]);
            for (int i = 0; i < probes.size(); i++) {
                CHECK.due(probes.get(i) + " after " + halves[0], after.get(i), before.get(i));
            }
        }
    }

    private static int findingOf(String answer) {
        int at = List.of("NULL", "INDEX", "CAST", "STORE", "SIZE").indexOf(answer);
        return at < 0 ? BEFORE : at + 1;
    }

    /** What a state shows after a call (null: none), asked of as many new objects as that takes. */
    private static List<Long> seen(State state, List<String> probes, String call) {
        List<Long> answers = new ArrayList<>();
        Run run = null;
        for (String probe : probes) {
            // An object is used for at most 512 calls: what they leave unasked is asked of a new one.
            if (run == null || run.left() == 0) {
                run = new Run(CHECK).prepared(state.lines);
                if (call != null) {
                    run.ask(call);
                }
            }
            answers.add(run.ask(probe));
        }
        return answers;
    }

    private static List<String> probes(State state) {
        List<String> probes = new ArrayList<>();
        int cells = state.cells();
        for (int what = 0; what <= 10; what++) {
            if (what != 6) {
                probes.add("count(" + what + ")");
            }
        }
        probes.add("digest()");
        probes.add("likeliest()");
        for (int i = -1; i <= 30; i++) {
            probes.add("way(" + i + ")");
        }
        for (int a = 0; a < cells; a++) {
            probes.add("share(" + a + ")");
            for (int b = cells <= 12 ? 0 : Math.max(0, a - 6); b < (cells <= 12 ? cells : Math.min(cells, a + 7)); b++) {
                probes.add("step(" + a + ", " + b + ")");
                probes.add("far(" + a + ", " + b + ")");
            }
            for (int i = 0; i < 8 * 11 && cells <= 12; i++) {
                probes.add("weight(" + i / 11 + ", " + a + ", " + (i % 11 - 1) + ")");
            }
        }
        sheetProbes(probes);
        walkerProbes(probes, state);
        return probes;
    }

    private static void sheetProbes(List<String> probes) {
        for (int s = 0; s < 4; s++) {
            for (int form = 0; form < 3; form++) {
                for (int i = 0; i <= 25; i++) {
                    probes.add("get(" + s + ", " + form + ", " + i + ")");
                }
            }
        }
    }

    /** These change what they ask, each in the same way: they come last. */
    private static void walkerProbes(List<String> probes, State state) {
        for (int floor = 0; floor < state.floors; floor++) {
            for (int x0 = 0; x0 < state.w; x0++) {
                for (int x1 = x0; x1 < state.w; x1++) {
                    for (int y0 = 0; y0 < state.h; y0++) {
                        for (int y1 = y0; y1 < state.h; y1++) {
                            probes.add("give(" + floor + ", " + x0 + ", " + x1 + ", " + y0 + ", " + y1 + ")");
                        }
                    }
                }
            }
        }
        for (int walker = 0; walker < 20; walker++) {
            probes.add("put(" + walker + ", NONE)");
        }
        probes.add("least(1)");
        probes.add("stay(1)");
        for (int s = 0; s < 4; s++) {
            probes.add("lose(" + s + ")");
        }
    }
}
