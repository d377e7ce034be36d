/** The edges of ways, promises 20 to 23: a test of its own for each sentence that names one. */
final class WaysEdgesTest {
    private static final Check CHECK = new Check("WaysEdgesTest");
    private static final int MISSING = -2;

    public static void main(String[] args) {
        noRows();
        oneRowAndThirty();
        allCells();
        noWay();
        leastAndGreatestScores();
        whatScoresLeaveOut();
        likeWays();
        likeWaysByLifts();
        waysTold();
        waysToldStay();
        learning();
        movedByHalf();
        movedBits();
        movedReckoned();
        refusals();
        CHECK.end();
    }

    private static void noRows() {
        CHECK.sentence("20, 22, 23: NOT: it has no ROWS: no items, 7 items");
        for (int n : new int[] {0, 1, 7}) {
            for (int form = 0; form < 3; form++) {
                String text = """
                    sheet(1, FORM, ITEMS) = ITEMS; best(1) = NOT; learn(1) = NOT; moved(1) = NOT; count(6) = 0
                    way(0) = BAD
                    """;
                new Run(CHECK).calls(text.replace("FORM", "" + form).replace("ITEMS", "" + n));
            }
        }
        CHECK.sentence("20: a SHEET of 8 items has a ROW, one of 15 has no second");
        new Run(CHECK).calls("""
            sheet(1, 0, 8) = 8; best(1) = 8; way(0) = 0; way(1) = BAD; learn(1) = 1; sheet(1, 0, 15) = 15
            best(1) = 16; way(1) = BAD; learn(1) = 1; sheet(1, 0, 16) = 16; learn(1) = 2; way(1) = 0
            """);
    }

    private static void oneRowAndThirty() {
        CHECK.sentence("20 to 23: 240 items: thirty ROWS; 239: twenty-nine");
        new Run(CHECK).calls("""
            sheet(0, 2, 240) = 240; best(0) = 298   # 30 times 8, and 29 STEPS of 2
            way(0) = 0; way(1) = 1; way(28) = 0; way(29) = 1; way(30) = BAD; moved(0) = 255; learn(0) = 30
            way(29) = 1; weight(0, 0, 0) = 16; weight(7, 1, 0) = 16; way(30) = BAD; sheet(0, 2, 239) = 239
            learn(0) = 29; way(28) = 0; way(29) = BAD; weight(0, 0, 0) = 31; weight(0, 1, 0) = 30
            """);
    }

    private static void allCells() {
        CHECK.sentence("20 to 23: thirty ROWS over 72 CELLS");
        new Run(CHECK).calls("""
            building(3, 6, 4) = 72; sheet(0, 0, 240) = 240; best(0) = 298; way(0) = 0; way(29) = 1; learn(0) = 30
            building(3, 6, 4) = 72; stay(9) = 1; survey(0, 0, 71) = 8; best(0) = 741   # 30 times 16, 29 times 9
            way(0) = 71; way(29) = 71; moved(0) = 0; lay(0, 0, 0, 3) = 1; survey(0, 0, 70) = 8; stay(1) = 9
            best(0) = 524   # 16 first, then 15 times 16 and 14 times 15, and 29 STEPS of 2
            way(0) = 70; way(1) = 71; way(2) = 70; way(29) = 71
            """);
    }

    private static void noWay() {
        CHECK.sentence("20, 22, 23: NOT: there is no way");
        new Run(CHECK).rows(0, new int[] {1}, new int[] {1}).rows(1, new int[] {1}).calls("""
            building(1, 2, 1) = 2; stay(0) = 1; wall(0, 1, true) = 1; best(0) = NOT; learn(0) = NOT; moved(0) = NOT
            count(6) = 0; way(0) = BAD; weight(0, 0, 1) = 1; best(1) = 1; way(0) = 0; learn(1) = 1; moved(1) = 0
            building(1, 1, 1) = 1; best(0) = NOT; way(0) = 0; best(1) = 1; stay(1) = 0; best(0) = 3; way(1) = 0
            """);
        CHECK.sentence("20: there is a way where one STEP goes on");
        new Run(CHECK).rows(0, new int[] {}, new int[] {}, new int[] {}).calls("""
            building(2, 2, 1) = 4; stay(0) = 1; wall(0, 1, true) = 1; wall(2, 3, true) = 1; best(0) = NOT
            lift(1, 0, true) = 1; best(0) = 2; way(0) = 1; way(1) = 3; way(2) = 1
            """);
        CHECK.sentence("23: NOT, also where all SENDERS are DEAD");
        new Run(CHECK).rows(0, new int[] {1}, new int[] {1}).calls("""
            dead(0, true) = 1; dead(1, true) = 1; dead(2, true) = 1; dead(3, true) = 1; dead(4, true) = 1
            dead(5, true) = 1; dead(6, true) = 1; dead(7, true) = 1; moved(0) = 0; building(1, 1, 1) = 1; stay(0) = 1
            moved(0) = NOT
            """);
    }

    private static void leastAndGreatestScores() {
        CHECK.sentence("20: the least SCORE: all are MISSING in one ROW");
        new Run(CHECK).rows(0, new int[] {}).calls("""
            best(0) = 0; way(0) = 0; way(1) = BAD; learn(0) = 1; moved(0) = 0
            """).due("digest()", new Place().digest());
        CHECK.sentence("20: the greatest SCORE: all counts are 255, thirty ROWS, STAY 9");
        new Run(CHECK).prepared("building(1, 1, 1); stay(9); sheet(0, 0, 240)" + "; learn(0)".repeat(8)).calls("""
            best(0) = 58101   # 30 times 8 times 241, and 29 times 9
            learn(0) = 30; weight(7, 0, 0) = 256; best(0) = 61701; learn(0) = 30; best(0) = 61701; moved(0) = 0
            """);
    }

    private static void whatScoresLeaveOut() {
        CHECK.sentence("Terms: SCORE: not of MISSING ones");
        new Run(CHECK).rows(0, new int[] {5, -1, 0, 9, 10, -2, 127, -128}).calls("""
            best(0) = 4; survey(0, 0, 7) = 4; best(0) = 8; way(0) = 7
            """);
        CHECK.sentence("Terms: SCORE: not of DEAD ones");
        new Run(CHECK).rows(0, new int[] {5, 5}, new int[] {-2, 5}).calls("""
            survey(0, 0, 7) = 2; survey(0, 1, 9) = 1; survey(0, 1, 9) = 1; survey(0, 1, 9) = 1; sheet(1, 1, 8) = 8
            copy(0, 0, 1, 0, 8) = 1; best(1) = 5; way(0) = 9; dead(1, true) = 1; best(1) = 2; way(0) = 7
            dead(0, true) = 1; best(1) = 0; way(0) = 0
            """);
        CHECK.sentence("Terms: SCORE: what was heard as it is, by no OFFSET");
        new Run(CHECK).rows(0, new int[] {5}, new int[] {6}).calls("""
            survey(0, 0, 7) = 1; best(0) = 5; way(0) = 7; way(1) = 3; moved(0) = 1; sheet(1, 1, 8) = 8
            copy(0, 8, 1, 0, 8) = 1; offset(1, 0, 7) = 1; best(1) = 1; way(0) = 0
            """);
        CHECK.sentence("Terms: SCORE: LIKELY of all STEPS: STAY as its number");
        new Run(CHECK).rows(0, new int[] {}, new int[] {}, new int[] {}).calls("""
            best(0) = 4; stay(2) = 1; best(0) = 4; stay(3) = 2; best(0) = 6; way(2) = 0; stay(9) = 3; best(0) = 18
            building(3, 1, 1) = 3; stay(0) = 9; lift(0, 0, true) = 1; best(0) = 2; stay(1) = 0; best(0) = 2
            way(2) = 0
            """);
    }

    private static void likeWays() {
        CHECK.sentence("Terms: of like ones the lesser CELL at the first ROW: one ROW");
        new Run(CHECK).rows(0, new int[] {5}).calls("""
            best(0) = 1; way(0) = 0; survey(0, 0, 15) = 1; best(0) = 2; way(0) = 15; survey(0, 0, 9) = 1; best(0) = 2
            way(0) = 9; survey(0, 0, 15) = 1; best(0) = 3; way(0) = 15
            """);
        CHECK.sentence("Terms: of like ones the lesser CELL at the first ROW in which they part: STEPS");
        new Run(CHECK).rows(0, new int[] {5}, new int[] {}, new int[] {}).calls("""
            # up, though left, right, down are alike
            survey(0, 0, 5) = 1; best(0) = 6; way(0) = 5; way(1) = 1; way(2) = 0; wall(5, 1, true) = 1; best(0) = 6
            way(1) = 4; way(2) = 0; wall(5, 4, true) = 1; best(0) = 6; way(1) = 6; way(2) = 2; wall(5, 6, true) = 1
            best(0) = 6; way(1) = 9; way(2) = 5; wall(5, 9, true) = 1; best(0) = 5; way(0) = 0; way(1) = 1; way(2) = 0
            stay(2) = 1; best(0) = 6; way(0) = 5; way(1) = 5; way(2) = 5
            """);
        CHECK.sentence("Terms: of like ones an early lesser CELL is ahead of any later one");
        new Run(CHECK).rows(0, new int[] {}, new int[] {5}).calls("""
            building(1, 3, 1) = 3; stay(2) = 1; survey(0, 1, 1) = 1; best(0) = 4; way(0) = 0; way(1) = 1
            survey(0, 1, 0) = 1; best(0) = 4; way(0) = 0; way(1) = 0; survey(0, 1, 2) = 1; survey(0, 1, 2) = 1
            best(0) = 5; way(0) = 1; way(1) = 2
            """);
        CHECK.sentence("Terms: of like ones: the last ROW alone parts them");
        new Run(CHECK).rows(0, new int[] {7}, new int[] {7}, new int[] {5}).calls("""
            building(1, 3, 1) = 3; stay(2) = 1; survey(0, 0, 1) = 1; best(0) = 9; way(0) = 1; way(1) = 1; way(2) = 0
            survey(0, 2, 2) = 1; best(0) = 10; way(0) = 1; way(1) = 1; way(2) = 2; survey(0, 2, 1) = 1; best(0) = 10
            way(2) = 1
            """);
    }

    private static void likeWaysByLifts() {
        CHECK.sentence("Terms: of like ones the lesser CELL: the FLOOR below is ahead of the one above");
        new Run(CHECK).rows(0, new int[] {5}, new int[] {}).calls("""
            building(3, 1, 1) = 3; stay(0) = 1; lift(0, 0, true) = 1; survey(0, 0, 1) = 1; best(0) = 3; way(0) = 1
            way(1) = 0; stay(1) = 0; best(0) = 3; way(1) = 0; survey(0, 0, 0) = 1; best(0) = 3; way(0) = 0; way(1) = 0
            """);
        CHECK.sentence("Terms: a LIFT's STEP scores 1: less than one beside, like STAY 1");
        new Run(CHECK).rows(0, new int[] {5}, new int[] {}).calls("""
            building(2, 1, 2) = 4; lift(0, 0, true) = 1; survey(0, 0, 2) = 1; best(0) = 4; way(0) = 2; way(1) = 3
            wall(2, 3, true) = 1; best(0) = 3; way(0) = 0; way(1) = 1; survey(0, 0, 2) = 1; best(0) = 4; way(0) = 2
            way(1) = 0
            """);
    }

    private static void waysTold() {
        CHECK.sentence("21: BAD: also before any");
        new Run(CHECK).rows(0, new int[] {1}).calls("""
            way(0) = BAD; way(-1) = BAD; moved(0) = 1; way(0) = BAD; best(4) = BAD; best(1) = NULL; way(0) = BAD
            best(0) = 1; way(0) = 0
            """);
        CHECK.sentence("21: CELL i: the first, the last; else BAD");
        new Run(CHECK).rows(0, new int[] {}, new int[] {}, new int[] {}).calls("""
            best(0) = 4; way(0) = 0; way(1) = 1; way(2) = 0; way(3) = BAD; way(-1) = BAD; way(30) = BAD
            way(MIN) = BAD; way(MAX) = BAD
            """);
        CHECK.sentence("21: told latest: by best(), learn()");
        new Run(CHECK).rows(0, new int[] {1}, new int[] {1}, new int[] {1}).rows(1, new int[] {2}).calls("""
            survey(1, 0, 9) = 1; best(0) = 7; way(2) = 0; best(1) = 2; way(0) = 9; way(1) = BAD; learn(0) = 3
            way(0) = 0; way(1) = 1; way(2) = 0; way(3) = BAD; learn(1) = 1; way(0) = 9; way(1) = BAD
            """);
    }

    private static void waysToldStay() {
        CHECK.sentence("23: (way() stays)");
        new Run(CHECK).rows(0, new int[] {1}, new int[] {1}).rows(1, new int[] {2}).calls("""
            survey(1, 0, 9) = 1; best(1) = 2; moved(0) = 1; way(0) = 9; way(1) = BAD
            """);
        CHECK.sentence("20, 22: a refusal leaves the way told");
        new Run(CHECK).rows(0, new int[] {1}, new int[] {1}).calls("""
            best(0) = 4; way(1) = 1; sheet(1, 0, 7) = 7; best(1) = NOT; best(2) = NULL; best(4) = BAD; learn(1) = NOT
            learn(2) = NULL; learn(-1) = BAD; way(0) = 0; way(1) = 1; way(2) = BAD
            """);
        CHECK.sentence("21: the way told latest stays when its SHEET is LOST or the building another");
        new Run(CHECK).rows(0, new int[] {1}).calls("""
            survey(0, 0, 15) = 1; best(0) = 2; lose(0) = 8; way(0) = 15; building(1, 1, 1) = 1; way(0) = 15
            way(1) = BAD
            """);
    }

    private static void learning() {
        CHECK.sentence("22: a SURVEY of each ROW in its CELL of THE BEST WAY: how many ROWS");
        new Run(CHECK).rows(0, new int[] {1, -1}, new int[] {2, 10}, new int[] {}).calls("""
            learn(0) = 3; weight(0, 0, 1) = 2; weight(1, 0, -1) = 2; weight(0, 1, 2) = 2; weight(0, 0, 2) = 1
            weight(0, 1, 1) = 1; weight(1, 1, -1) = 1; weight(1, 1, 9) = 1; best(0) = 10; learn(0) = 3
            weight(0, 0, 1) = 3; weight(0, 1, 2) = 3
            """);
        CHECK.sentence("22: LEARNING counts DEAD SENDERS too, as a SURVEY does");
        new Run(CHECK).rows(0, new int[] {1, 2}).calls("""
            dead(0, true) = 1; learn(0) = 1; weight(0, 0, 1) = 2; weight(1, 0, 2) = 2
            """);
        CHECK.sentence("22: a ROW is learnt where the way was found, also if one ahead of it was learnt alike");
        new Run(CHECK).rows(0, new int[] {5}, new int[] {5}, new int[] {5}).calls("""
            building(1, 2, 1) = 2; learn(0) = 3; way(0) = 0; way(1) = 1; way(2) = 0; weight(0, 0, 5) = 3
            weight(0, 1, 5) = 2
            """);
        CHECK.sentence("22: no count goes past 255 by LEARNING");
        new Run(CHECK).prepared("building(1, 1, 1); sheet(0, 0, 240)" + "; learn(0)".repeat(9)).calls("""
            weight(0, 0, 0) = 256; weight(7, 0, 0) = 256; weight(0, 0, 1) = 1; learn(0) = 30; weight(0, 0, 0) = 256
            """);
    }

    /** ROWS in which SENDER 0 was heard unknown, known, or not at all, in a building of one CELL. */
    private static void half(int unknown, int known, int missing, int want) {
        int rows = unknown + known + missing;
        Run run = new Run(CHECK).prepared("building(1, 1, 1); sheet(1, 0, 8); survey(1, 0, 0)");
        run.ask("sheet(0, 0, " + 8 * rows + ")");
        for (int row = 0; row < unknown + missing; row++) {
            run.ask("lay(0, 0, " + 8 * row + ", " + (row < unknown ? 9 : MISSING) + ")");
        }
        run.due("moved(0)", want);
    }

    private static void movedByHalf() {
        CHECK.sentence("Terms: MOVED: more than half of the ROWS in which it is not MISSING");
        half(1, 0, 0, 1);
        half(0, 1, 0, 0);
        half(1, 1, 0, 0);
        half(2, 1, 0, 1);
        half(1, 2, 0, 0);
        half(2, 2, 0, 0);
        half(15, 15, 0, 0);
        half(16, 14, 0, 1);
        half(14, 15, 0, 0);
        half(15, 14, 0, 1);
        half(30, 0, 0, 1);
        half(0, 30, 0, 0);
        CHECK.sentence("Terms: MOVED: ROWS in which it is MISSING are no part of the half");
        half(1, 0, 29, 1);
        half(1, 1, 28, 0);
        half(2, 1, 27, 1);
        half(5, 5, 20, 0);
        half(6, 5, 19, 1);
        CHECK.sentence("Terms: MOVED: not one that is MISSING in all ROWS");
        half(0, 0, 1, 0);
        half(0, 0, 30, 0);
        CHECK.sentence("Terms: MOVED: a WEIGHT of it of 1: NOTHING heard counts too");
        new Run(CHECK).rows(0, new int[] {-1, 3}).calls("moved(0) = 3; survey(0, 0, 0) = 2; moved(0) = 0");
    }

    private static void movedBits() {
        CHECK.sentence("23: as bits: none, the first, the last, all");
        new Run(CHECK).calls("""
            building(1, 1, 1) = 1; sheet(0, 0, 8) = 8; moved(0) = 255; survey(0, 0, 0) = 8; moved(0) = 0
            lay(0, 0, 0, 1) = 1; moved(0) = 1; lay(0, 0, 7, 1) = 1; moved(0) = 129; lay(0, 0, 0, 0) = 1
            moved(0) = 128
            """);
        CHECK.sentence("Terms: MOVED is a SENDER that is not DEAD");
        new Run(CHECK).calls("""
            sheet(0, 0, 8) = 8; dead(0, true) = 1; dead(7, true) = 1; moved(0) = 126; dead(7, false) = 1
            moved(0) = 254
            """);
    }

    private static void movedReckoned() {
        CHECK.sentence("Terms: MOVED: THE BEST WAY reckoned as if it were MISSING");
        new Run(CHECK).rows(0, new int[] {5, 5}, new int[] {-2, 5}).calls("""
            survey(0, 0, 7) = 2; survey(0, 1, 9) = 1; survey(0, 1, 9) = 1; sheet(1, 1, 8) = 8; copy(0, 0, 1, 0, 8) = 1
            best(1) = 4; way(0) = 7    # 2 and 2, in CELL 9 1 and 3
            moved(1) = 1   # without SENDER 0 the way is in CELL 9, where it was never heard so
            dead(0, true) = 1; moved(1) = 2   # without SENDER 1, too, nothing is left to tell the way
            dead(0, false) = 1; dead(1, true) = 1; moved(1) = 1; way(0) = 7
            """);
        CHECK.sentence("Terms: MOVED: a SENDER heard alone is reckoned in the least CELLS");
        new Run(CHECK).rows(0, new int[] {5}).calls("""
            survey(0, 0, 3) = 1; best(0) = 2; way(0) = 3; moved(0) = 1; survey(0, 0, 0) = 1; moved(0) = 0
            """);
        CHECK.sentence("23: moved() changes nothing");
        Run run = new Run(CHECK).rows(0, new int[] {1, 2, 3}, new int[] {4, 5, 6});
        long before = run.ask("digest()");
        run.calls("moved(0) = 7").due("digest()", before).calls("count(6) = 0; way(0) = BAD; weight(0, 0, 1) = 1");
    }

    private static void refusals() {
        CHECK.sentence("20, 22, 23: BAD: the SHEET");
        for (String call : new String[] {"best", "learn", "moved"}) {
            new Run(CHECK).calls("""
                sheet(0, 0, 8) = 8; sheet(3, 0, 8) = 8; CALL(-1) = BAD; CALL(4) = BAD; CALL(MIN) = BAD
                CALL(MAX) = BAD; count(6) = 0; way(0) = BAD
                """.replace("CALL", call));
        }
        CHECK.sentence("20, 22, 23: the first and the last SHEET");
        new Run(CHECK).calls("""
            sheet(0, 0, 8) = 8; sheet(3, 0, 8) = 8; best(0) = 8; best(3) = 8; moved(0) = 255; moved(3) = 255
            learn(0) = 1; learn(3) = 1
            """);
        CHECK.sentence("20, 22, 23: NULL ahead of NOT");
        for (String call : new String[] {"best", "learn", "moved"}) {
            new Run(CHECK).calls("""
                building(1, 1, 1) = 1; stay(0) = 1; CALL(2) = NULL; count(6) = 1; sheet(2, 0, -1) = SIZE
                CALL(2) = NULL; count(6) = 1; sheet(2, 0, 240) = 240; CALL(2) = NOT; sheet(2, 0, 0) = 0; CALL(2) = NOT
                lose(2) = 0; CALL(2) = NULL
                """.replace("CALL", call));
        }
    }
}
