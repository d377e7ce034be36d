/** The edges of senders and the map, promises 8 to 11: a test of its own for each sentence that names one. */
final class SendersEdgesTest {
    private static final Check CHECK = new Check("SendersEdgesTest");

    public static void main(String[] args) {
        deadOnes();
        wholeRows();
        itemsOfRows();
        whatIsMissing();
        surveys();
        fullCounts();
        surveyRefusals();
        weights();
        offsetsAtTheEnds();
        offsetsOfLikeSums();
        offsetsOfNone();
        offsetRefusals();
        CHECK.end();
    }

    private static void deadOnes() {
        CHECK.sentence("8: SENDERS 0 .. 7; else BAD");
        new Run(CHECK).calls("""
            dead(0, true) = 1; count(9) = 1; dead(7, true) = 1; count(9) = 129; dead(-1, true) = BAD
            dead(8, true) = BAD; dead(-1, false) = BAD; dead(8, false) = BAD; dead(32, false) = BAD
            dead(39, false) = BAD; dead(-32, true) = BAD; dead(MIN, true) = BAD; dead(MAX, true) = BAD
            dead(MIN, false) = BAD; dead(MAX, false) = BAD; count(9) = 129
            """);
        CHECK.sentence("8: DEAD, or not: 1; also if it is so already");
        new Run(CHECK).calls("""
            dead(3, false) = 1; count(9) = 0; dead(3, true) = 1; dead(3, true) = 1; count(9) = 8; dead(3, false) = 1
            dead(3, false) = 1; count(9) = 0
            """);
        CHECK.sentence("8: all SENDERS are DEAD");
        Run run = new Run(CHECK).rows(0, new int[] {1, 2, 3, 4, 5, 6, 7, 8});
        for (int sender = 0; sender < 8; sender++) {
            run.due("dead(" + sender + ", true)", 1);
        }
        run.calls("""
            count(9) = 255; survey(0, 0, 3) = 8; weight(7, 3, 8) = 2; hear(0, 0, 0) = 16; share(3) = 62500
            best(0) = 0; way(0) = 0; offset(0, 0, 3) = 0; moved(0) = 0; learn(0) = 1; weight(0, 0, 1) = 2
            """);
    }

    private static void wholeRows() {
        CHECK.sentence("Terms: as many ROWS as are whole; 9: INDEX: no such ROW");
        int[] sizes = {0, 1, 7, 8, 9, 15, 16, 17, 231, 232, 239, 240};
        for (int size : sizes) {
            int rows = size / 8;
            Run run = new Run(CHECK).due("sheet(0, 0, " + size + ")", size);
            for (int row = 0; row < rows; row++) {
                run.due("survey(0, " + row + ", 0)", 8);
            }
            for (int row : new int[] {rows, rows + 1, 30, -1, -8, Integer.MIN_VALUE, Integer.MAX_VALUE, 1 << 29}) {
                run.due("survey(0, " + row + ", 0)", -12).due("offset(0, " + row + ", 0)", -12);
                run.due("hear(0, " + row + ", 0)", -12);
            }
            run.due("count(6)", 2).due("weight(0, 0, 0)", rows + 1);
        }
    }

    private static void itemsOfRows() {
        CHECK.sentence("Terms: ROW r are items 8 r to 8 r and 7");
        Run run = new Run(CHECK).calls("sheet(2, 2, 240) = 240");
        for (int sender = 0; sender < 8; sender++) {
            run.due("lay(2, 2, " + (232 + sender) + ", " + (sender + 1) + ")", 1);
            run.due("lay(2, 2, " + sender + ", " + (8 - sender) + ")", 1);
        }
        run.calls("survey(2, 29, 15) = 8; survey(2, 0, 0) = 8; survey(2, 28, 7) = 8; survey(2, 1, 7) = 8");
        for (int sender = 0; sender < 8; sender++) {
            run.due("weight(" + sender + ", 15, " + (sender + 1) + ")", 2).due("weight(" + sender + ", 15, 0)", 1);
            run.due("weight(" + sender + ", 0, " + (8 - sender) + ")", 2).due("weight(" + sender + ", 7, 0)", 3);
        }
    }

    private static void whatIsMissing() {
        CHECK.sentence("Terms: 0 to 9, -1 (NOTHING), any other: MISSING");
        long[][] items = {{-1, 1}, {0, 1}, {9, 1}, {-2, 0}, {10, 0}, {-3, 0}, {11, 0}, {127, 0}, {-128, 0}};
        for (int form = 0; form < 3; form++) {
            for (long[] item : items) {
                surveyed(form, item[0], item[1]);
            }
        }
        CHECK.sentence("Terms: what is MISSING in a row of bytes: the lowest bits tell");
        surveyed(0, 255, 1);
        surveyed(0, 254, 0);
        surveyed(0, 256, 1);
        surveyed(0, 265, 1);
        surveyed(0, 266, 0);
        surveyed(0, -247, 1);
        CHECK.sentence("Terms: what is MISSING in a row of shorts: the lowest bits tell");
        surveyed(1, 65535, 1);
        surveyed(1, 65534, 0);
        surveyed(1, 255, 0);
        surveyed(1, 65536, 1);
        surveyed(1, 65545, 1);
        surveyed(1, 65546, 0);
        surveyed(1, 32767, 0);
        surveyed(1, -32768, 0);
        CHECK.sentence("Terms: what is MISSING in a row of ints: all bits tell");
        surveyed(2, 65535, 0);
        surveyed(2, 65536, 0);
        surveyed(2, 256, 0);
        surveyed(2, Integer.MAX_VALUE, 0);
        surveyed(2, Integer.MIN_VALUE, 0);
    }

    /** Of one SENDER something else was heard than of the seven others, of which 0 was. */
    private static void surveyed(int form, long item, long want) {
        Run run = new Run(CHECK).due("sheet(0, " + form + ", 8)", 8).due("lay(0, " + form + ", 5, " + item + ")", 1);
        run.due("survey(0, 0, 2)", 7 + want);
        long counted = 0;
        for (int heard = -1; heard <= 9; heard++) {
            counted += run.ask("weight(5, 2, " + heard + ")") - 1;
        }
        CHECK.due("the counts of " + item + " in FORM " + form, counted, want);
    }

    private static void surveys() {
        CHECK.sentence("9: how many SENDERS were not MISSING: none, all");
        new Run(CHECK).rows(0, new int[] {}, new int[] {-1, -1, -1, -1, -1, -1, -1, -1}).calls("""
            digest() = DIGEST; survey(0, 0, 0) = 0; digest() = DIGEST; survey(0, 1, 0) = 8; weight(7, 0, -1) = 2
            """.replace("DIGEST", "" + new Place().digest()));
        CHECK.sentence("9: a SURVEY in the first and in the last CELL");
        new Run(CHECK).rows(0, new int[] {3}).calls("""
            building(2, 6, 6) = 72; survey(0, 0, 0) = 1; survey(0, 0, 71) = 1; weight(0, 0, 3) = 2
            weight(0, 71, 3) = 2; weight(0, 1, 3) = 1; weight(0, 70, 3) = 1; weight(1, 0, 3) = 1; weight(1, 71, 3) = 1
            """);
        CHECK.sentence("Terms: the count of what was heard becomes one more, and no other");
        new Run(CHECK).rows(0, new int[] {-1, 9, 0}).calls("""
            building(1, 3, 1) = 3; survey(0, 0, 1) = 3; weight(0, 1, -1) = 2; weight(0, 1, 0) = 1; weight(0, 0, 9) = 1
            weight(0, 2, -1) = 1; weight(0, 0, -1) = 1; weight(1, 1, 9) = 2; weight(1, 1, 8) = 1; weight(1, 2, -1) = 1
            weight(1, 0, 9) = 1; weight(1, 2, 9) = 1; weight(2, 1, 0) = 2; weight(2, 1, -1) = 1; weight(2, 1, 1) = 1
            weight(0, 1, 9) = 1; weight(2, 1, 9) = 1
            """);
        CHECK.sentence("Terms: a SURVEY counts DEAD SENDERS too (only the MISSING are left out)");
        new Run(CHECK).rows(0, new int[] {4, 5}).calls("""
            dead(1, true) = 1; survey(0, 0, 0) = 2; weight(0, 0, 4) = 2; weight(1, 0, 5) = 2
            """);
    }

    private static void fullCounts() {
        CHECK.sentence("Terms: counts (0 to 255): the 255th SURVEY, and the ones after it");
        Run run = new Run(CHECK).rows(0, new int[] {-1, 0, 9});
        for (int i = 1; i <= 254; i++) {
            run.due("survey(0, 0, 15)", 3);
        }
        run.calls("""
            weight(0, 15, -1) = 255; weight(1, 15, 0) = 255; weight(2, 15, 9) = 255; survey(0, 0, 15) = 3
            weight(0, 15, -1) = 256; weight(1, 15, 0) = 256; weight(2, 15, 9) = 256; survey(0, 0, 15) = 3
            weight(0, 15, -1) = 256; weight(1, 15, 0) = 256; weight(2, 15, 9) = 256; weight(0, 15, 0) = 1
            weight(1, 15, -1) = 1; weight(1, 15, 1) = 1; weight(2, 15, 8) = 1; weight(3, 0, -1) = 1; learn(0) = 1
            way(0) = 15; weight(0, 15, -1) = 256; best(0) = 768; survey(0, 0, 14) = 3; weight(2, 14, 9) = 2
            hear(0, 0, 0) = 1; share(15) = 1000000; known(14) = 1; hear(0, 0, 0) = NOT; share(14) = 1000000
            building(1, 4, 4) = 16; weight(0, 15, -1) = 1; survey(0, 0, 15) = 3; weight(0, 15, -1) = 2
            """);
    }

    private static void surveyRefusals() {
        CHECK.sentence("9: BAD: the SHEET, the CELL");
        new Run(CHECK).calls("""
            sheet(0, 0, 8) = 8; sheet(3, 0, 8) = 8; survey(-1, 0, 0) = BAD; survey(4, 0, 0) = BAD
            survey(MIN, 0, 0) = BAD; survey(MAX, 0, 0) = BAD; survey(0, 0, -1) = BAD; survey(0, 0, 16) = BAD
            survey(0, 0, MIN) = BAD; survey(0, 0, MAX) = BAD; count(6) = 0; survey(0, 0, 0) = 8; survey(3, 0, 15) = 8
            """);
        CHECK.sentence("9: BAD ahead of NULL, NULL ahead of INDEX");
        new Run(CHECK).calls("""
            survey(1, 0, 16) = BAD; survey(1, 0, -1) = BAD; count(6) = 0; survey(1, 0, 0) = NULL; count(6) = 1
            survey(1, -1, 0) = NULL; survey(1, 30, 0) = NULL; sheet(0, 0, 8) = 8; survey(0, 1, 16) = BAD; count(6) = 1
            survey(0, 1, 15) = INDEX; count(6) = 2; survey(0, -1, -1) = BAD
            """);
    }

    private static void weights() {
        CHECK.sentence("10: SENDERS 0 .. 7, CELLS, what was heard -1 to 9; else BAD");
        new Run(CHECK).calls("""
            building(2, 6, 6) = 72; weight(0, 0, -1) = 1; weight(7, 71, 9) = 1; weight(-1, 0, 0) = BAD
            weight(8, 0, 0) = BAD; weight(0, -1, 0) = BAD; weight(0, 72, 0) = BAD; weight(0, 0, -2) = BAD
            weight(0, 0, 10) = BAD; weight(-1, 71, 10) = BAD; weight(8, -1, 9) = BAD; weight(MIN, 0, 0) = BAD
            weight(MAX, 0, 0) = BAD; weight(0, MIN, 0) = BAD; weight(0, MAX, 0) = BAD; weight(0, 0, MIN) = BAD
            weight(0, 0, MAX) = BAD; count(6) = 0; building(1, 1, 1) = 1; weight(7, 0, 9) = 1; weight(0, 1, 0) = BAD
            """);
        CHECK.sentence("Terms: THE WEIGHT: its count there and 1");
        new Run(CHECK).rows(0, new int[] {4}).calls("""
            weight(0, 7, 4) = 1; survey(0, 0, 7) = 1; weight(0, 7, 4) = 2; survey(0, 0, 7) = 1; weight(0, 7, 4) = 3
            """);
    }

    /** THE OFFSET of what was heard where THE MAP knows each of what was told of the same SENDERS, once. */
    private static void offsetOf(int[] told, int[] heard, int want) {
        new Run(CHECK).rows(0, told, heard).due("survey(0, 0, 3)", told.length).due("offset(0, 1, 3)", want);
    }

    private static void offsetsAtTheEnds() {
        CHECK.sentence("Terms: OFFSET -4 to 4: the ends, and what is past them");
        offsetOf(new int[] {0}, new int[] {4}, 4);
        offsetOf(new int[] {0}, new int[] {5}, 0);
        offsetOf(new int[] {3}, new int[] {7}, 4);
        offsetOf(new int[] {3}, new int[] {8}, 0);
        offsetOf(new int[] {9}, new int[] {5}, -4);
        offsetOf(new int[] {9}, new int[] {4}, 0);
        offsetOf(new int[] {6}, new int[] {2}, -4);
        offsetOf(new int[] {6}, new int[] {1}, 0);
        CHECK.sentence("Terms: that less OFFSET, cut to 0 .. 9");
        offsetOf(new int[] {9, 9}, new int[] {9, 7}, -2);
        offsetOf(new int[] {9, 9}, new int[] {6, 5}, -4);
        offsetOf(new int[] {0, 0}, new int[] {0, 3}, 3);
        offsetOf(new int[] {0, 0}, new int[] {1, 4}, 4);
        offsetOf(new int[] {0, 0, 0}, new int[] {0, 1, 2}, 2);
        offsetOf(new int[] {9, 0}, new int[] {9, 0}, 0);
        CHECK.sentence("Terms: -1 (NOTHING) by an OFFSET is NOTHING");
        offsetOf(new int[] {0}, new int[] {-1}, 0);
        offsetOf(new int[] {3}, new int[] {-1}, 0);
        offsetOf(new int[] {-1}, new int[] {0}, 0);
        offsetOf(new int[] {-1}, new int[] {3}, 0);
        offsetOf(new int[] {-1, 2}, new int[] {-1, 6}, 4);
        CHECK.sentence("Terms: MISSING by an OFFSET is MISSING");
        offsetOf(new int[] {9}, new int[] {10}, 0);
        offsetOf(new int[] {9}, new int[] {13}, 0);
        offsetOf(new int[] {0}, new int[] {-2}, 0);
        offsetOf(new int[] {2}, new int[] {-2}, 0);
        offsetOf(new int[] {-1}, new int[] {-2}, 0);
        offsetOf(new int[] {9, 3}, new int[] {10, 4}, 1);
        CHECK.sentence("11: a ROW in the first and in the last CELL");
        new Run(CHECK).rows(0, new int[] {2}, new int[] {5}).calls("""
            survey(0, 0, 0) = 1; survey(0, 1, 15) = 1; offset(0, 1, 0) = 3; offset(0, 0, 15) = -3; offset(0, 0, 0) = 0
            offset(0, 1, 15) = 0; offset(0, 0, 7) = 0
            """);
    }

    private static void offsetsOfLikeSums() {
        CHECK.sentence("Terms: THE OFFSET: the greatest sum, however great its amount");
        new Run(CHECK).rows(0, new int[] {4, 4}, new int[] {0, 0}, new int[] {4, -2}).calls("""
            survey(0, 1, 0) = 2; offset(0, 0, 0) = 4; survey(0, 2, 0) = 1; offset(0, 0, 0) = 4
            survey(0, 2, 0) = 1   # 0: 3 and 1, 4: 2 and 2
            offset(0, 0, 0) = 0
            """);
        CHECK.sentence("Terms: of like ones the least amount");
        likeOffsets(5, 5, 6, 0);
        likeOffsets(5, 5, 4, 0);
        likeOffsets(5, 4, 7, 1);
        likeOffsets(5, 6, 3, -1);
        likeOffsets(5, 3, 8, 2);
        likeOffsets(5, 7, 2, -2);
        likeOffsets(5, 2, 9, 3);
        likeOffsets(5, 8, 1, -3);
        CHECK.sentence("Terms: of like ones the least amount, then the one below 0");
        likeOffsets(5, 4, 6, -1);
        likeOffsets(5, 3, 7, -2);
        likeOffsets(5, 2, 8, -3);
        likeOffsets(5, 1, 9, -4);
    }

    /** In the CELL two loud ones are known, each as often. */
    private static void likeOffsets(int heard, int one, int other, int want) {
        new Run(CHECK).rows(0, new int[] {heard}, new int[] {one}, new int[] {other}).calls("""
            survey(0, 1, 9) = 1; survey(0, 2, 9) = 1
            """).due("offset(0, 0, 9)", want);
    }

    private static void offsetsOfNone() {
        CHECK.sentence("11: THE OFFSET where THE MAP is 0");
        new Run(CHECK).rows(0, new int[] {0, 9, 5, -1}).calls("offset(0, 0, 0) = 0; offset(0, 0, 15) = 0");
        CHECK.sentence("11: THE OFFSET of a ROW in which all are MISSING");
        new Run(CHECK).rows(0, new int[] {}, new int[] {5}).calls("survey(0, 1, 0) = 1; offset(0, 0, 0) = 0");
        CHECK.sentence("Terms: THE OFFSET: not of DEAD ones");
        new Run(CHECK).rows(0, new int[] {5, 3}, new int[] {7, 2}).calls("""
            survey(0, 1, 0) = 2; survey(0, 1, 0) = 2; survey(0, 1, 0) = 2; offset(0, 0, 0) = 1; dead(1, true) = 1
            offset(0, 0, 0) = -2; dead(0, true) = 1; offset(0, 0, 0) = 0; dead(1, false) = 1; offset(0, 0, 0) = 1
            """);
    }

    private static void offsetRefusals() {
        CHECK.sentence("11: -100 for BAD (the SHEET, the CELL)");
        new Run(CHECK).calls("""
            sheet(0, 0, 8) = 8; sheet(3, 2, 8) = 8; offset(-1, 0, 0) = -100; offset(4, 0, 0) = -100
            offset(MIN, 0, 0) = -100; offset(MAX, 0, 0) = -100; offset(0, 0, -1) = -100; offset(0, 0, 16) = -100
            offset(0, 0, MIN) = -100; offset(0, 0, MAX) = -100; count(6) = 0; offset(0, 0, 0) = 0
            offset(3, 0, 15) = 0
            """);
        CHECK.sentence("11: FINDINGS as they are: NULL; INDEX; BAD ahead of them, NULL ahead of INDEX");
        new Run(CHECK).calls("""
            offset(1, 0, 16) = -100; offset(1, -1, -1) = -100; count(6) = 0; offset(1, 0, 0) = NULL; count(6) = 1
            offset(1, -1, 0) = NULL; offset(1, 30, 0) = NULL; sheet(0, 0, 7) = 7; offset(0, 0, 16) = -100
            count(6) = 1; offset(0, 0, 15) = INDEX; count(6) = 2; offset(0, -1, 0) = INDEX
            """);
    }
}
