/** The building's edges, promises 1 to 7: a test of its own for each sentence that names one. */
final class BuildingEdgesTest {
    private static final Check CHECK = new Check("BuildingEdgesTest");

    public static void main(String[] args) {
        newObject();
        newObjectHasNothing();
        newObjectsAreApart();
        leastAndGreatestBuildings();
        cellsAreNumbered();
        buildingClears();
        buildingClearsCellsThatWere();
        buildingKeeps();
        walls();
        wallsNotBeside();
        wallsEverywhere();
        lifts();
        liftsEverywhere();
        stays();
        steps();
        far();
        farThroughAll();
        CHECK.end();
    }

    private static void newObject() {
        CHECK.sentence("1: One FLOOR, 4 by 4");
        new Run(CHECK).calls("""
            count(0) = 1; count(1) = 4; count(2) = 4; share(0) = 62500; share(15) = 62500; share(16) = BAD
            share(-1) = BAD; within(0, 0, 3, 0, 3) = 1000000; within(0, 0, 4, 0, 3) = BAD; within(0, 0, 3, 0, 4) = BAD
            within(1, 0, 3, 0, 3) = BAD; far(0, 15) = 6; far(0, 16) = BAD
            """);
        CHECK.sentence("1: ALL ALIKE");
        Run run = new Run(CHECK).calls("likeliest() = 0; sure(62500) = 1; sure(62501) = 2; sure(1000000) = 16");
        for (int cell = 0; cell < 16; cell++) {
            run.due("share(" + cell + ")", 62500);
        }
        CHECK.sentence("1: THE MAP is 0");
        for (int sender = 0; sender < 8; sender++) {
            Run one = new Run(CHECK);
            for (int cell = 0; cell < 16; cell++) {
                for (int heard = -1; heard <= 9; heard++) {
                    one.due("weight(" + sender + ", " + cell + ", " + heard + ")", 1);
                }
            }
        }
        CHECK.sentence("1: all SHEETS are LOST");
        for (int s = 0; s < 4; s++) {
            String text = """
                count(6) = 0; lose(S) = NULL; count(6) = 1; best(S) = NULL; learn(S) = NULL; moved(S) = NULL
                survey(S, 0, 0) = NULL; offset(S, 0, 0) = NULL; hear(S, 0, 0) = NULL; lay(S, 0, 0, 0) = NULL
                get(S, 0, 0) = MIN; copy(S, 0, S, 0, 0) = NULL
                """;
            new Run(CHECK).calls(text.replace("S", "" + s));
        }
    }

    private static void newObjectHasNothing() {
        CHECK.sentence("Terms: WALLS: none at first");
        Run run = new Run(CHECK).calls("count(3) = 0");
        for (int cell = 0; cell < 16; cell++) {
            if (cell % 4 < 3) {
                run.due("step(" + cell + ", " + (cell + 1) + ")", 2);
                run.due("wall(" + cell + ", " + (cell + 1) + ", false)", 0);
            }
            if (cell < 12) {
                run.due("step(" + cell + ", " + (cell + 4) + ")", 2);
                run.due("wall(" + cell + ", " + (cell + 4) + ", false)", 0);
            }
        }
        CHECK.sentence("Terms: LIFTS: none at first");
        Run other = new Run(CHECK).calls("count(4) = 0");
        for (int place = 0; place < 16; place++) {
            other.due("lift(" + place % 4 + ", " + place / 4 + ", false)", 0);
        }
        CHECK.sentence("Terms: STAY 1 at first");
        new Run(CHECK).calls("count(7) = 1; step(0, 0) = 1; step(15, 15) = 1; stay(0) = 1");
        CHECK.sentence("Terms: LEAST 3 at first");
        new Run(CHECK).calls("count(8) = 3; least(1) = 3");
        CHECK.sentence("Terms: WALKERS nowhere at first");
        Run nobody = new Run(CHECK).calls("count(10) = 0");
        for (int walker = 0; walker < 20; walker++) {
            nobody.due("put(" + walker + ", NONE)", -1);
        }
        CHECK.sentence("1: nobody is DEAD, no AREA was GIVEN, no FINDING, no way");
        new Run(CHECK).calls("count(9) = 0; count(5) = 0; count(6) = 0; way(0) = BAD");
    }

    private static void newObjectsAreApart() {
        CHECK.sentence("1: a new object is as every new one");
        long first = new Place().digest();
        Run run = new Run(CHECK).rows(0, new int[] {1, 2, 3}).calls("""
            stay(9) = 1; dead(7, true) = 1; wall(0, 1, true) = 1; lift(0, 0, true) = 1; survey(0, 0, 0) = 3
            known(5) = 1; best(0) = 6; least(1) = 3; put(0, 3) = NONE; give(0, 3, 3, 0, 0) = 1
            """);
        new Run(CHECK).due("digest()", first).calls("""
            way(0) = BAD; lose(0) = NULL; step(0, 1) = 2; weight(0, 0, 1) = 1; put(0, NONE) = NONE
            """);
        run.calls("way(0) = 0; weight(0, 0, 1) = 2; put(0, NONE) = 3; lose(0) = 8; share(5) = 1000000");
    }

    private static void leastAndGreatestBuildings() {
        CHECK.sentence("Terms, 2: FLOORS 1 to 3");
        new Run(CHECK).calls("""
            building(0, 4, 4) = BAD; building(-1, 4, 4) = BAD; building(4, 4, 4) = BAD
            building(4, 1, 1) = BAD   # though 4 CELLS were not too many
            building(MIN, 1, 1) = BAD; building(MAX, 1, 1) = BAD; count(0) = 1; building(3, 4, 4) = 48; count(0) = 3
            share(47) = 20833; share(48) = BAD; within(2, 0, 3, 0, 3) = 333328; within(3, 0, 3, 0, 3) = BAD
            building(1, 4, 4) = 16; count(0) = 1; building(2, 4, 4) = 32; count(0) = 2
            """);
        CHECK.sentence("Terms, 2: W 1 to 6");
        new Run(CHECK).calls("""
            building(1, 0, 4) = BAD; building(1, -1, 4) = BAD; building(1, 7, 4) = BAD; building(1, 7, 1) = BAD
            building(1, MIN, 1) = BAD; building(1, MAX, 1) = BAD; count(1) = 4; building(1, 6, 4) = 24; count(1) = 6
            count(2) = 4; building(1, 1, 4) = 4; count(1) = 1; count(2) = 4
            """);
        CHECK.sentence("Terms, 2: H 1 to 6");
        new Run(CHECK).calls("""
            building(1, 4, 0) = BAD; building(1, 4, -1) = BAD; building(1, 4, 7) = BAD; building(1, 1, 7) = BAD
            building(1, 1, MIN) = BAD; building(1, 1, MAX) = BAD; count(2) = 4; building(1, 4, 6) = 24; count(1) = 4
            count(2) = 6; building(1, 4, 1) = 4; count(1) = 4; count(2) = 1
            """);
        CHECK.sentence("Terms, 2: 72 CELLS at most in all");
        new Run(CHECK).calls("""
            building(2, 6, 6) = 72; share(71) = 13888; share(72) = BAD; building(3, 6, 4) = 72; building(3, 4, 6) = 72
            building(3, 5, 5) = BAD   # 75
            building(3, 6, 5) = BAD; building(3, 5, 6) = BAD; building(3, 6, 6) = BAD; count(0) = 3; count(1) = 4
            count(2) = 6; building(3, 5, 4) = 60; building(3, 4, 5) = 60; building(-1, -6, 6) = BAD
            building(-2, 6, -6) = BAD; building(1, -6, -6) = BAD
            building(1, 65536, 65536) = BAD   # a product that wraps to 0
            building(3, 1073741824, 4) = BAD; building(MAX, MAX, MAX) = BAD; building(MIN, MIN, MIN) = BAD
            count(2) = 5
            """);
        CHECK.sentence("Terms, 2: the least building has one CELL");
        new Run(CHECK).calls("""
            building(1, 1, 1) = 1; share(0) = 1000000; share(1) = BAD; step(0, 0) = 1; step(0, 1) = BAD; far(0, 0) = 0
            wall(0, 0, true) = BAD; wall(0, 1, true) = BAD; lift(0, 0, true) = 1; lift(1, 0, true) = BAD
            lift(0, 1, true) = BAD; known(0) = 1; known(1) = BAD; lead(20) = 1; likeliest() = 0; alike() = 1000000
            within(0, 0, 0, 0, 0) = 1000000; within(0, 0, 1, 0, 0) = BAD; sure(1000000) = 1
            """);
    }

    private static void cellsAreNumbered() {
        CHECK.sentence("Terms: numbered floor by floor, row by row (x first)");
        Run run = new Run(CHECK).calls("building(3, 4, 2) = 24");
        int cell = 0;
        for (int floor = 0; floor < 3; floor++) {
            for (int y = 0; y < 2; y++) {
                for (int x = 0; x < 4; x++) {
                    run.due("known(" + cell + ")", 1);
                    run.due("within(" + floor + ", " + x + ", " + x + ", " + y + ", " + y + ")", 1000000);
                    cell++;
                }
            }
        }
    }

    private static void buildingClears() {
        CHECK.sentence("2: no WALLS");
        new Run(CHECK).calls("""
            building(2, 2, 2) = 8; wall(0, 1, true) = 1; wall(0, 2, true) = 1; wall(5, 7, true) = 1; count(3) = 3
            building(2, 2, 2) = 8; count(3) = 0; step(0, 1) = 2; step(1, 0) = 2; step(0, 2) = 2; step(5, 7) = 2
            wall(0, 1, false) = 0; wall(0, 2, false) = 0; wall(5, 7, false) = 0; wall(0, 1, true) = 1; count(3) = 1
            """);
        CHECK.sentence("2: no LIFTS");
        new Run(CHECK).calls("""
            building(2, 2, 2) = 8; lift(0, 0, true) = 1; lift(1, 1, true) = 1; count(4) = 2; building(2, 2, 2) = 8
            count(4) = 0; step(0, 4) = 0; step(7, 3) = 0; lift(0, 0, false) = 0; lift(1, 1, false) = 0
            lift(1, 1, true) = 1
            """);
        CHECK.sentence("2: THE MAP is 0");
        new Run(CHECK).rows(0, new int[] {-1, 0, 9}).calls("""
            survey(0, 0, 0) = 3; survey(0, 0, 15) = 3; weight(2, 15, 9) = 2; building(1, 4, 4) = 16
            weight(0, 0, -1) = 1; weight(1, 0, 0) = 1; weight(2, 0, 9) = 1; weight(0, 15, -1) = 1
            weight(2, 15, 9) = 1
            """);
        CHECK.sentence("2: ALL ALIKE");
        new Run(CHECK).calls("""
            known(3) = 1; building(1, 4, 4) = 16; share(3) = 62500; share(0) = 62500; share(15) = 62500
            """);
        CHECK.sentence("2: WALKERS are nowhere");
        Run run = new Run(CHECK);
        for (int walker = 0; walker < 20; walker++) {
            run.due("put(" + walker + ", " + walker % 16 + ")", -1);
        }
        run.calls("count(10) = 20; building(1, 4, 4) = 16; count(10) = 0; least(1) = 3; give(0, 0, 3, 0, 3) = NOT");
        for (int walker = 0; walker < 20; walker++) {
            run.due("put(" + walker + ", NONE)", -1);
        }
        CHECK.sentence("2: no AREA was GIVEN");
        new Run(CHECK).calls("""
            put(0, 5) = NONE; put(1, 5) = NONE; put(2, 5) = NONE; give(0, 1, 1, 1, 1) = 3; count(5) = 1
            building(1, 4, 4) = 16; count(5) = 0
            """);
    }

    private static void buildingClearsCellsThatWere() {
        CHECK.sentence("2: what was is not there again in a greater building");
        new Run(CHECK).rows(0, new int[] {9, 9, 9, 9, 9, 9, 9, 9}).calls("""
            building(2, 6, 6) = 72; survey(0, 0, 71) = 8; wall(70, 71, true) = 1; wall(65, 71, true) = 1
            lift(5, 5, true) = 1; known(71) = 1; put(19, 71) = NONE; building(1, 1, 1) = 1; share(0) = 1000000
            building(2, 6, 6) = 72; weight(7, 71, 9) = 1; weight(0, 71, 9) = 1; step(70, 71) = 2; step(71, 65) = 2
            step(35, 71) = 0; share(71) = 13888; share(0) = 13889; put(19, 0) = NONE
            """);
    }

    private static void buildingKeeps() {
        CHECK.sentence("2: STAY stays");
        new Run(CHECK).calls("""
            stay(9) = 1; building(1, 2, 1) = 2; count(7) = 9; step(1, 1) = 9; stay(0) = 9; building(1, 2, 1) = 2
            step(0, 0) = 0
            """);
        CHECK.sentence("2: DEAD ones stay");
        new Run(CHECK).calls("dead(0, true) = 1; dead(7, true) = 1; building(1, 2, 1) = 2; count(9) = 129");
        CHECK.sentence("2: LEAST stays");
        new Run(CHECK).calls("least(20) = 3; building(1, 2, 1) = 2; count(8) = 20; least(1) = 20");
        CHECK.sentence("2: SHEETS stay");
        new Run(CHECK).calls("""
            sheet(0, 0, 240) = 240; lay(0, 0, 239, -7) = 1; sheet(3, 2, 1) = 1; lay(3, 2, 0, MAX) = 1
            building(1, 1, 1) = 1; get(0, 0, 239) = -7; get(3, 2, 0) = MAX; lose(0) = 240; lose(1) = NULL; lose(3) = 1
            """);
    }

    private static void walls() {
        CHECK.sentence("3: A WALL is, or is not: 1; 0: it is so already");
        new Run(CHECK).calls("""
            wall(0, 1, false) = 0; wall(0, 1, true) = 1; wall(0, 1, true) = 0; count(3) = 1; wall(0, 1, false) = 1
            wall(0, 1, false) = 0; count(3) = 0
            """);
        CHECK.sentence("3: between two CELLS: of both orders it is one WALL");
        new Run(CHECK).calls("""
            wall(1, 0, true) = 1; wall(0, 1, true) = 0; step(0, 1) = 0; step(1, 0) = 0; wall(4, 0, true) = 1
            wall(0, 4, true) = 0; count(3) = 2; wall(0, 1, false) = 1; wall(1, 0, false) = 0; step(1, 0) = 2
            step(0, 4) = 0; wall(0, 4, false) = 1; count(3) = 0
            """);
        CHECK.sentence("3: the first and the last CELLS");
        new Run(CHECK).calls("""
            building(2, 3, 2) = 12; wall(0, 1, true) = 1; wall(0, 3, true) = 1; wall(10, 11, true) = 1
            wall(8, 11, true) = 1; step(11, 10) = 0; step(11, 8) = 0; step(0, 3) = 0; count(3) = 4
            """);
        CHECK.sentence("3: BAD: no such CELL");
        new Run(CHECK).calls("""
            building(2, 3, 2) = 12; wall(-1, 0, true) = BAD; wall(0, -1, true) = BAD; wall(-3, 0, true) = BAD
            wall(11, 12, true) = BAD; wall(12, 11, true) = BAD; wall(11, 14, true) = BAD; wall(12, 13, true) = BAD
            wall(-2, -1, true) = BAD; wall(MIN, 0, true) = BAD; wall(0, MIN, true) = BAD; wall(MAX, 0, true) = BAD
            wall(0, MAX, true) = BAD; wall(MAX, MIN, true) = BAD; wall(-1, 0, false) = BAD; wall(11, 12, false) = BAD
            count(3) = 0
            """);
    }

    private static void wallsNotBeside() {
        CHECK.sentence("3: BAD: also not beside each other");
        new Run(CHECK).calls("""
            building(2, 3, 3) = 18; lift(1, 1, true) = 1
            wall(4, 4, true) = BAD    # itself
            wall(3, 5, true) = BAD; wall(1, 7, true) = BAD    # two apart
            wall(0, 4, true) = BAD; wall(4, 2, true) = BAD; wall(4, 6, true) = BAD; wall(8, 4, true) = BAD    # aslant
            wall(2, 3, true) = BAD; wall(6, 5, true) = BAD    # the end of a row, and the next
            wall(8, 9, true) = BAD; wall(6, 9, true) = BAD; wall(2, 9, true) = BAD    # of two FLOORS
            wall(0, 9, true) = BAD; wall(4, 13, true) = BAD; wall(13, 4, true) = BAD    # one above the other
            wall(4, 4, false) = BAD; wall(2, 3, false) = BAD; wall(4, 13, false) = BAD; count(3) = 0; step(4, 13) = 1
            building(3, 1, 1) = 3; wall(0, 1, true) = BAD; wall(1, 2, true) = BAD; wall(0, 0, true) = BAD
            building(3, 1, 2) = 6; wall(1, 2, true) = BAD; wall(0, 1, true) = 1; wall(4, 5, true) = 1
            building(3, 2, 1) = 6; wall(1, 2, true) = BAD; wall(0, 1, true) = 1; wall(4, 5, true) = 1
            """);
    }

    /** All 120 WALLS of the greatest building; n from the first to the last, in the order of CELLS. */
    private static void allWalls(Run run, boolean is, int want) {
        for (int cell = 0; cell < 72; cell++) {
            if (cell % 6 < 5) {
                run.due("wall(" + cell + ", " + (cell + 1) + ", " + is + ")", want);
            }
            if (cell % 36 < 30) {
                run.due("wall(" + cell + ", " + (cell + 6) + ", " + is + ")", want);
            }
        }
    }

    private static void wallsEverywhere() {
        CHECK.sentence("3: everything is full of WALLS");
        Run run = new Run(CHECK).calls("building(2, 6, 6) = 72");
        allWalls(run, true, 1);
        run.calls("count(3) = 120");
        allWalls(run, true, 0);
        run.calls("""
            count(3) = 120; step(0, 1) = 0; step(0, 6) = 0; step(71, 70) = 0; step(71, 65) = 0; step(35, 35) = 1
            far(0, 1) = NONE; far(0, 6) = NONE; far(71, 71) = 0; known(14) = 1; lead(20) = 1; share(14) = 1000000
            """);
        allWalls(run, false, 1);
        run.calls("count(3) = 0; far(0, 35) = 10; step(71, 65) = 2");
        CHECK.sentence("Terms: a LIFT's STEP is there between four WALLS");
        new Run(CHECK).calls("""
            building(2, 3, 3) = 18; wall(4, 1, true) = 1; wall(4, 3, true) = 1; wall(4, 5, true) = 1
            wall(4, 7, true) = 1; far(4, 0) = NONE; lift(1, 1, true) = 1; step(4, 13) = 1; step(13, 4) = 1
            far(4, 13) = 1; far(4, 0) = NONE; far(4, 9) = 3; step(13, 10) = 2
            """);
    }

    private static void lifts() {
        CHECK.sentence("4: A LIFT is, or is not: 1; 0: it is so already");
        new Run(CHECK).calls("""
            lift(2, 1, false) = 0; lift(2, 1, true) = 1; lift(2, 1, true) = 0; count(4) = 1; lift(2, 1, false) = 1
            lift(2, 1, false) = 0; count(4) = 0
            """);
        CHECK.sentence("4: places x, y: x 0 to W - 1, y 0 to H - 1; else BAD");
        new Run(CHECK).calls("""
            building(2, 3, 2) = 12; lift(0, 0, true) = 1; lift(2, 1, true) = 1; lift(2, 0, true) = 1
            lift(0, 1, true) = 1; lift(-1, 0, true) = BAD; lift(3, 0, true) = BAD; lift(0, -1, true) = BAD
            lift(0, 2, true) = BAD; lift(1, 2, true) = BAD; lift(3, 1, true) = BAD; lift(-1, 1, false) = BAD
            lift(3, -1, true) = BAD; lift(-3, 1, true) = BAD; lift(MIN, 0, true) = BAD; lift(MAX, 0, true) = BAD
            lift(0, MIN, false) = BAD; lift(0, MAX, true) = BAD; lift(715827883, 1, true) = BAD; count(4) = 4
            step(2, 8) = 1; step(1, 7) = 0
            """);
        CHECK.sentence("Terms: at a LIFT to the next FLOOR above or below");
        new Run(CHECK).calls("""
            building(3, 2, 2) = 12; lift(1, 0, true) = 1; step(1, 5) = 1; step(5, 1) = 1; step(5, 9) = 1
            step(9, 5) = 1
            step(1, 9) = 0; step(9, 1) = 0    # not the next one
            step(0, 4) = 0; step(1, 4) = 0; step(1, 6) = 0; step(2, 6) = 0; far(1, 9) = 2; far(9, 1) = 2
            """);
        CHECK.sentence("Terms: a LIFT of one FLOOR leads nowhere");
        new Run(CHECK).calls("""
            building(1, 2, 1) = 2; stay(0) = 1; wall(0, 1, true) = 1; lift(0, 0, true) = 1; count(4) = 1
            step(0, 0) = 0; known(0) = 1; lead(20) = 1; share(0) = 1000000; far(0, 1) = NONE
            """);
    }

    private static void liftsEverywhere() {
        CHECK.sentence("4: everything is full of LIFTS");
        Run run = new Run(CHECK).calls("building(2, 6, 6) = 72");
        for (int place = 0; place < 36; place++) {
            run.due("lift(" + place % 6 + ", " + place / 6 + ", true)", 1).due("count(4)", place + 1);
            run.due("step(" + place + ", " + (place + 36) + ")", 1).due("step(" + (place + 36) + ", " + place + ")", 1);
        }
        run.calls("lift(0, 0, true) = 0; lift(5, 5, true) = 0; lift(6, 5, true) = BAD; count(4) = 36; far(0, 71) = 11");
        for (int place = 0; place < 36; place++) {
            run.due("lift(" + place % 6 + ", " + place / 6 + ", false)", 1);
        }
        run.calls("count(4) = 0; far(0, 36) = NONE; step(35, 71) = 0; step(36, 0) = 0");
    }

    private static void stays() {
        CHECK.sentence("5: STAY 0 to 9: what it was");
        new Run(CHECK).calls("""
            stay(9) = 1; count(7) = 9; step(0, 0) = 9; step(15, 15) = 9; stay(0) = 9; count(7) = 0; stay(1) = 0
            stay(1) = 1; step(3, 3) = 1
            """);
        CHECK.sentence("5: BAD");
        new Run(CHECK).calls("""
            stay(-1) = BAD; stay(10) = BAD; stay(MIN) = BAD; stay(MAX) = BAD; stay(256) = BAD; count(7) = 1
            stay(3) = 1
            """);
        CHECK.sentence("Terms: STAY 0: there is no STEP to itself");
        new Run(CHECK).calls("""
            building(1, 2, 1) = 2; stay(0) = 1; step(0, 0) = 0; step(1, 1) = 0; far(0, 0) = 0; known(0) = 1
            lead(1) = 1; share(0) = 0; share(1) = 1000000
            """);
    }

    private static void steps() {
        CHECK.sentence("6: the LIKELY number; 0: there is none");
        new Run(CHECK).calls("""
            building(2, 3, 2) = 12; stay(5) = 1; lift(2, 1, true) = 1; wall(1, 2, true) = 1; step(0, 0) = 5
            step(11, 11) = 5; step(0, 1) = 2; step(1, 0) = 2; step(0, 3) = 2; step(1, 2) = 0; step(2, 1) = 0
            step(5, 11) = 1; step(11, 5) = 1; step(0, 6) = 0; step(2, 3) = 0; step(0, 2) = 0; step(0, 4) = 0
            step(5, 6) = 0
            """);
        CHECK.sentence("6: BAD");
        new Run(CHECK).calls("""
            building(2, 3, 2) = 12; step(-1, 0) = BAD; step(0, -1) = BAD; step(12, 11) = BAD; step(11, 12) = BAD
            step(12, 12) = BAD; step(-1, -1) = BAD; step(MIN, 0) = BAD; step(MAX, 0) = BAD; step(0, MIN) = BAD
            step(0, MAX) = BAD; step(0, 11) = 0; step(11, 0) = 0
            """);
    }

    private static void far() {
        CHECK.sentence("7: 0: itself");
        new Run(CHECK).calls("""
            far(0, 0) = 0; far(15, 15) = 0; stay(0) = 1; far(7, 7) = 0; wall(0, 1, true) = 1; wall(0, 4, true) = 1
            far(0, 0) = 0
            """);
        CHECK.sentence("7: NONE");
        new Run(CHECK).calls("""
            wall(0, 1, true) = 1; wall(0, 4, true) = 1; far(0, 1) = NONE; far(0, 15) = NONE; far(15, 0) = NONE
            far(4, 1) = 2; wall(0, 4, false) = 1; far(0, 1) = 3; building(3, 1, 1) = 3; far(0, 1) = NONE
            far(2, 0) = NONE; far(1, 1) = 0
            """);
        CHECK.sentence("7: BAD");
        new Run(CHECK).calls("""
            far(-1, 0) = BAD; far(0, -1) = BAD; far(16, 0) = BAD; far(0, 16) = BAD; far(16, 16) = BAD
            far(-1, -1) = BAD; far(MIN, 0) = BAD; far(0, MIN) = BAD; far(MAX, 0) = BAD; far(0, MAX) = BAD
            far(15, 0) = 6
            """);
    }

    private static void farThroughAll() {
        CHECK.sentence("7: the fewest STEPS through all 72 CELLS");
        Run run = new Run(CHECK).calls("building(2, 6, 6) = 72");
        for (int row = 0; row < 12; row++) {
            for (int x = 0; x < 6; x++) {
                // Each row is left by one end alone; a LIFT joins the ends of both winding ways.
                if (row % 6 < 5 && x != (row % 2 == 0 ? 5 : 0)) {
                    int cell = 6 * row + x;
                    run.due("wall(" + cell + ", " + (cell + 6) + ", true)", 1);
                }
            }
        }
        run.calls("""
            lift(0, 5, true) = 1; far(0, 30) = 35; far(30, 66) = 1; far(0, 66) = 36; far(0, 36) = 71; far(36, 0) = 71
            far(5, 36) = 66; lift(0, 5, false) = 1; far(0, 36) = NONE; lift(0, 0, true) = 1; far(0, 36) = 1
            far(30, 66) = 71
            """);
    }
}
