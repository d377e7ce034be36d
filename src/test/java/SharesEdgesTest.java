/** The edges of shares, promises 12 to 19: a test of its own for each sentence that names one. */
final class SharesEdgesTest {
    private static final Check CHECK = new Check("SharesEdgesTest");

    public static void main(String[] args) {
        alike();
        known();
        madeWhole();
        lead();
        leadByLifts();
        leadCut();
        leadWithoutSteps();
        leadOverAll();
        hear();
        hearByOffsets();
        hearCut();
        hearOverAll();
        shareOfOne();
        hearLost();
        hearRefusals();
        share();
        likeliest();
        within();
        sure();
        CHECK.end();
    }

    private static void alike() {
        CHECK.sentence("12: ALL ALIKE: the SHARE of the last CELL: one CELL");
        new Run(CHECK).calls("building(1, 1, 1) = 1; alike() = 1000000; share(0) = 1000000");
        CHECK.sentence("12: ALL ALIKE: the SHARE of the last CELL: 72 CELLS");
        Run run = new Run(CHECK).calls("building(3, 6, 4) = 72; known(71) = 1; alike() = 13888");
        for (int cell = 0; cell < 72; cell++) {
            run.due("share(" + cell + ")", cell < 64 ? 13889 : 13888);
        }
        CHECK.sentence("Terms: of like ones the least numbers first");
        new Run(CHECK).calls("""
            building(1, 3, 1) = 3; alike() = 333333; share(0) = 333334; share(1) = 333333; share(2) = 333333
            building(1, 6, 1) = 6; alike() = 166666; share(3) = 166667; share(4) = 166666; building(1, 5, 2) = 10
            alike() = 100000; share(0) = 100000
            """);
    }

    private static void known() {
        CHECK.sentence("13: All is in one CELL: the first, the last");
        new Run(CHECK).calls("""
            building(3, 4, 6) = 72; known(0) = 1; share(0) = 1000000; share(1) = 0; share(71) = 0; sure(1000000) = 1
            known(71) = 1; share(0) = 0; share(70) = 0; share(71) = 1000000; likeliest() = 71; known(71) = 1
            share(71) = 1000000
            """);
        CHECK.sentence("13: BAD");
        new Run(CHECK).calls("""
            known(-1) = BAD; known(16) = BAD; known(MIN) = BAD; known(MAX) = BAD; share(0) = 62500; known(15) = 1
            building(1, 1, 1) = 1; known(1) = BAD; known(0) = 1
            """);
    }

    private static void madeWhole() {
        CHECK.sentence("Terms: what lacks goes, one each, to those with the greatest rests");
        new Run(CHECK).calls("""
            building(1, 3, 1) = 3; known(0) = 1; lead(1) = 2   # weights 333333333, 666666666: rests of a third and two
            share(0) = 333333; share(1) = 666667; share(2) = 0
            lead(1) = 3   # 377777.8, 355555.4, 266666.8
            share(0) = 377778; share(1) = 355555; share(2) = 266667
            """);
        CHECK.sentence("Terms: SHARES are together 1000000");
        Run run = new Run(CHECK).calls("building(3, 6, 4) = 72; lift(2, 2, true) = 1; known(33) = 1");
        for (int i = 0; i < 40; i++) {
            run.ask("lead(" + (1 + i % 20) + ")");
            long sum = 0;
            for (int floor = 0; floor < 3; floor++) {
                sum += run.ask("within(" + floor + ", 0, 5, 0, 3)");
            }
            CHECK.due("all SHARES", sum, 1000000);
        }
        CHECK.sentence("Terms: SHARE is cut: a weight may be too small for one");
        new Run(CHECK).rows(0, new int[] {5}).prepared("building(1, 2, 1)" + "; survey(0, 0, 0)".repeat(255)).calls("""
            hear(0, 0, 0) = 2; share(0) = 997009; share(1) = 2991   # weights as 1000 to 3, of what was alike
            hear(0, 0, 0) = 2; share(0) = 999991; share(1) = 9      # 8.9998
            hear(0, 0, 0) = 1; share(0) = 1000000; share(1) = 0     # 0.027
            known(1) = 1; hear(0, 0, 0) = 1; share(1) = 1000000; share(0) = 0
            """);
    }

    private static void lead() {
        CHECK.sentence("14: n STEPS (1 to 20); else BAD");
        new Run(CHECK).calls("""
            known(0) = 1; lead(0) = BAD; lead(21) = BAD; lead(-1) = BAD; lead(MIN) = BAD; lead(MAX) = BAD
            share(0) = 1000000; lead(1) = 3; known(0) = 1; lead(20) = 16
            """);
        CHECK.sentence("14: 20 STEPS are twenty times one");
        Run once = new Run(CHECK).calls("building(2, 3, 2) = 12; lift(0, 0, true) = 1; known(11) = 1; lead(20) = 12");
        Run often = new Run(CHECK).calls("building(2, 3, 2) = 12; lift(0, 0, true) = 1; known(11) = 1");
        for (int i = 0; i < 20; i++) {
            often.ask("lead(1)");
        }
        for (int cell = 0; cell < 12; cell++) {
            often.due("share(" + cell + ")", once.ask("share(" + cell + ")"));
        }
        CHECK.sentence("14: how many CELLS have a SHARE then: not those that no STEP reached");
        new Run(CHECK).calls("""
            building(1, 6, 1) = 6; known(0) = 1; lead(1) = 2; lead(1) = 3; lead(2) = 5; lead(1) = 6; lead(1) = 6
            stay(0) = 1; known(0) = 1; lead(1) = 1; share(0) = 0; share(1) = 1000000; lead(1) = 2; share(1) = 0
            share(3) = 0
            """);
        CHECK.sentence("Terms: LEADING times LIKELY by the sum of LIKELY numbers: STAY 9 and 0");
        new Run(CHECK).calls("""
            building(1, 2, 1) = 2; stay(9) = 1; known(0) = 1; lead(1) = 2; share(0) = 818182; share(1) = 181818
            stay(0) = 9; known(0) = 1; lead(1) = 1; share(1) = 1000000; lead(1) = 1; share(0) = 1000000
            building(3, 1, 1) = 3; lift(0, 0, true) = 1; known(1) = 1; lead(1) = 2; share(0) = 500000
            share(2) = 500000; stay(9) = 0; known(1) = 1; lead(1) = 3; share(0) = 90909; share(1) = 818182
            share(2) = 90909
            """);
    }

    private static void leadByLifts() {
        CHECK.sentence("Terms: STEPS at a LIFT: from the lowest FLOOR none goes below, from the highest none above");
        new Run(CHECK).calls("""
            building(2, 2, 1) = 4; lift(0, 0, true) = 1; known(0) = 1; lead(1) = 3; share(0) = 250000
            share(1) = 500000; share(2) = 250000; known(2) = 1; lead(1) = 3; share(2) = 250000; share(3) = 500000
            share(0) = 250000
            # one and two thirds of a quarter are in CELLS 0 and 2, a half and a third of one in CELLS 1 and 3
            alike() = 250000; lead(1) = 4; share(0) = 291667; share(1) = 208333; share(2) = 291667; share(3) = 208333
            """);
        CHECK.sentence("Terms: STEPS at a LIFT: on one FLOOR it leads nowhere");
        new Run(CHECK).calls("""
            building(1, 2, 1) = 2; lift(1, 0, true) = 1; known(0) = 1; lead(1) = 2   # 333333, 666667
            lead(1) = 2; share(0) = 555556; share(1) = 444444
            """);
        CHECK.sentence("Terms: the least sum of LIKELY numbers: a LIFT's STEP alone");
        new Run(CHECK).calls("""
            building(2, 1, 1) = 2; stay(0) = 1; lift(0, 0, true) = 1; known(0) = 1; lead(1) = 1; share(1) = 1000000
            lead(1) = 1; share(0) = 1000000; lead(20) = 1; share(0) = 1000000
            """);
    }

    private static void leadCut() {
        CHECK.sentence("Terms: LEADING: its SHARE times 1000 (cut, each)");
        new Run(CHECK).calls("""
            building(1, 2, 2) = 4; stay(8) = 1; known(0) = 1; lead(1) = 3   # 666666666, 166666666 twice
            share(0) = 666667; share(1) = 166667; share(2) = 166666
            lead(1) = 4   # 500000165, 222222499, 222221832, 55555499: 0.5001 goes ahead of 0.4993
            share(0) = 500000; share(1) = 222223; share(2) = 222222; share(3) = 55555
            """);
        new Run(CHECK).calls("""
            building(1, 3, 1) = 3; known(1) = 1; lead(1) = 3; share(0) = 400000; share(1) = 200000
            lead(1) = 3   # 213333333, 573333332, 213333333
            share(0) = 213334; share(1) = 573333; share(2) = 213333
            """);
    }

    private static void leadWithoutSteps() {
        CHECK.sentence("Terms: all of it stays where it has none");
        new Run(CHECK).calls("""
            building(1, 2, 2) = 4; known(0) = 1; lead(1) = 3; share(0) = 200000; share(1) = 400000; share(2) = 400000
            stay(0) = 1; wall(0, 1, true) = 1; wall(0, 2, true) = 1; wall(1, 3, true) = 1; wall(2, 3, true) = 1
            lead(20) = 3; share(0) = 200000; share(1) = 400000; share(2) = 400000; share(3) = 0; wall(2, 3, false) = 1
            lead(1) = 3; share(0) = 200000; share(1) = 400000; share(2) = 0; share(3) = 400000
            """);
        CHECK.sentence("Terms: all of it stays where it has none: one CELL");
        new Run(CHECK).calls("""
            building(1, 1, 1) = 1; stay(0) = 1; lead(20) = 1; share(0) = 1000000; lift(0, 0, true) = 1; lead(1) = 1
            """);
    }

    private static void leadOverAll() {
        CHECK.sentence("14: all 72 CELLS have a SHARE");
        new Run(CHECK).calls("""
            building(2, 6, 6) = 72; lift(0, 0, true) = 1; lift(5, 5, true) = 1; known(0) = 1; lead(20) = 72
            lead(20) = 72; stay(9) = 1; lead(20) = 72; alike() = 13888; lead(1) = 72; building(2, 6, 6) = 72
            stay(0) = 9; alike() = 13888; lead(20) = 72; known(35) = 1; lead(20) = 18; within(1, 0, 5, 0, 5) = 0
            """);
    }

    private static void hear() {
        CHECK.sentence("15: HEARING where THE MAP is 0: all stays as it is");
        new Run(CHECK).rows(0, new int[] {5, 5, 5, 5, 5, 5, 5, 5}).calls("""
            building(1, 3, 1) = 3; known(0) = 1; lead(1) = 2; hear(0, 0, 0) = 2; share(0) = 333333; share(1) = 666667
            hear(0, 0, -4) = 2; share(0) = 333333; share(2) = 0
            """);
        CHECK.sentence("15: HEARING a ROW in which all are MISSING");
        new Run(CHECK).rows(0, new int[] {}, new int[] {5}).calls("""
            building(1, 2, 1) = 2; survey(0, 1, 0) = 1; hear(0, 0, 0) = 2; share(0) = 500000; known(1) = 1
            hear(0, 0, 0) = 1; share(1) = 1000000
            """);
        CHECK.sentence("Terms: HEARING: for each SENDER that is not DEAD");
        new Run(CHECK).rows(0, new int[] {5}).calls("""
            building(1, 2, 1) = 2; survey(0, 0, 0) = 1; dead(0, true) = 1; hear(0, 0, 0) = 2; share(0) = 500000
            dead(0, false) = 1; hear(0, 0, 0) = 2; share(0) = 666667; share(1) = 333333
            """);
        CHECK.sentence("15: HEARING in one CELL");
        new Run(CHECK).rows(0, new int[] {5, -1}).calls("""
            building(1, 1, 1) = 1; survey(0, 0, 0) = 2; hear(0, 0, 0) = 1; share(0) = 1000000
            """);
        CHECK.sentence("15: the first and the last ROW, the first and the last SENDER");
        new Run(CHECK).calls("""
            building(1, 2, 1) = 2; sheet(3, 2, 240) = 240; lay(3, 2, 0, 1) = 1; lay(3, 2, 239, 1) = 1
            # 1000, and a half of a half
            survey(3, 0, 0) = 8; survey(3, 29, 1) = 8; hear(3, 0, 0) = 2; share(0) = 800000; alike() = 500000
            hear(3, 29, 0) = 2; share(1) = 800000; hear(3, 30, 0) = INDEX
            """);
    }

    private static void hearByOffsets() {
        CHECK.sentence("Terms: by an OFFSET 0 to 9 is that less OFFSET, cut to 0 .. 9: HEARING");
        Run run = new Run(CHECK).rows(0, new int[] {9}, new int[] {0}, new int[] {5}).calls("""
            building(1, 2, 1) = 2; survey(0, 0, 0) = 1; survey(0, 1, 1) = 1
            """);
        heard(run, "hear(0, 0, -4)", 666667);
        heard(run, "hear(0, 0, -1)", 666667);
        heard(run, "hear(0, 0, 0)", 666667);
        heard(run, "hear(0, 0, 1)", 500000);
        heard(run, "hear(0, 2, -4)", 666667);
        heard(run, "hear(0, 2, -3)", 500000);
        heard(run, "hear(0, 1, 4)", 333333);
        heard(run, "hear(0, 1, 1)", 333333);
        heard(run, "hear(0, 1, 0)", 333333);
        heard(run, "hear(0, 1, -1)", 500000);
        heard(run, "hear(0, 2, 4)", 500000);
        CHECK.sentence("Terms: NOTHING by an OFFSET is NOTHING: HEARING");
        Run nothing = new Run(CHECK).rows(0, new int[] {-1}, new int[] {0}, new int[] {4}).calls("""
            building(1, 2, 1) = 2; survey(0, 0, 0) = 1; survey(0, 1, 1) = 1
            """);
        heard(nothing, "hear(0, 0, 0)", 666667);
        heard(nothing, "hear(0, 0, 4)", 666667);
        heard(nothing, "hear(0, 0, -1)", 666667);
        heard(nothing, "hear(0, 0, -4)", 666667);
        heard(nothing, "hear(0, 1, 1)", 333333);
        heard(nothing, "hear(0, 2, 4)", 333333);
        CHECK.sentence("Terms: MISSING by an OFFSET is MISSING: HEARING");
        int[][] rows = {{9, 0, -1}, {10, -2, -2}, {13, -4, 14}};
        Run missing = new Run(CHECK).rows(0, rows).calls("""
            building(1, 2, 1) = 2; survey(0, 0, 0) = 3
            """);
        for (int offset = -4; offset <= 4; offset++) {
            heard(missing, "hear(0, 1, " + offset + ")", 500000);
            heard(missing, "hear(0, 2, " + offset + ")", 500000);
        }
    }

    /** The SHARE of CELL 0, of two, after HEARING with both alike. */
    private static void heard(Run run, String hear, long want) {
        run.ask("alike()");
        run.due(hear, 2);
        CHECK.due(hear + ", share(0)", run.ask("share(0)"), want);
    }

    private static void hearCut() {
        CHECK.sentence("Terms: HEARING: cut for each SENDER");
        new Run(CHECK).rows(0, new int[] {4, 4, 4, 4, 4, 4, 4, 4}).prepared("""
            building(1, 2, 1); survey(0, 0, 0); survey(0, 0, 0); survey(0, 0, 0); survey(0, 0, 0); survey(0, 0, 0)
            survey(0, 0, 0); survey(0, 0, 1); survey(0, 0, 1); survey(0, 0, 1)
            """).calls("""
            hear(0, 0, 0) = 2   # by 4 sevenths: 571, 326, 186, 106, 60, 34, 19, 10 (11 were it cut but once)
            share(0) = 990099; share(1) = 9901
            """);
        CHECK.sentence("Terms: HEARING: for each SENDER in order");
        new Run(CHECK).rows(0, new int[] {4, 4}, new int[] {-2, 4}).calls("""
            building(1, 2, 1) = 2; survey(0, 0, 0) = 2; survey(0, 0, 0) = 2; survey(0, 1, 0) = 1; survey(0, 1, 1) = 1
            survey(0, 1, 1) = 1; hear(0, 0, 0) = 2   # a third, then three quarters: 333, 249 (250 the other way)
            share(0) = 800641; share(1) = 199359
            """);
        CHECK.sentence("Terms: HEARING: by the greatest WEIGHT in any CELL, also where no SHARE is");
        new Run(CHECK).rows(0, new int[] {4}).calls("""
            building(1, 3, 1) = 3; survey(0, 0, 0) = 1; known(2) = 1; stay(1) = 1; lead(1) = 2; share(2) = 333333
            hear(0, 0, 0) = 2; share(1) = 666667; share(2) = 333333; survey(0, 0, 2) = 1; hear(0, 0, 0) = 2
            share(1) = 500000; share(2) = 500000
            """);
    }

    private static void hearOverAll() {
        CHECK.sentence("15: HEARING in all 72 CELLS, by all SENDERS, from the last ROW");
        new Run(CHECK).calls("""
            building(3, 6, 4) = 72; sheet(0, 0, 240) = 240; survey(0, 29, 71) = 8; hear(0, 29, 0) = 72
            # weights 13888000 in the last, 41667 in 64 CELLS, 41664 in 7: 25 lack
            share(71) = 824393; share(0) = 2474; share(23) = 2474; share(24) = 2473; share(70) = 2473
            within(2, 0, 5, 0, 3) = 881272; likeliest() = 71
            """);
        CHECK.sentence("Terms: HEARING: the greatest WEIGHT is 1: nothing is cut by that SENDER");
        new Run(CHECK).rows(0, new int[] {5, 5, 5, 5, 5, 5, 5, 5}, new int[] {5})
            .prepared("building(1, 2, 1)" + "; survey(0, 1, 0)".repeat(255))
            .calls("hear(0, 0, 0) = 2; share(0) = 997009; share(1) = 2991   # by 1000 and 3");
    }

    private static void shareOfOne() {
        CHECK.sentence("14, 15, 19: how many CELLS have a SHARE: a SHARE of 1 is one");
        String often = "building(1, 2, 1)" + "; survey(0, 0, 0)".repeat(255) + "; survey(0, 1, 0)".repeat(7);
        new Run(CHECK).rows(0, new int[] {5}, new int[] {-2, 5}).prepared(often).calls("""
            hear(0, 0, 0) = 2; hear(0, 0, 0) = 2; share(1) = 9
            hear(0, 1, 0) = 2   # an eighth of 9
            share(0) = 999999; share(1) = 1; sure(1000000) = 2; sure(999999) = 1; within(0, 1, 1, 0, 0) = 1
            wall(0, 1, true) = 1; lead(1) = 2; share(1) = 1; hear(0, 1, 0) = 1; share(1) = 0
            """);
    }

    private static void hearLost() {
        CHECK.sentence("15: NOT: it is LOST; and nothing changes");
        String often = "building(1, 3, 1)" + "; survey(0, 0, 0)".repeat(255);
        new Run(CHECK).rows(0, new int[] {5, 5}, new int[] {5}).prepared(often).calls("""
            known(2) = 1; lead(1) = 2   # in CELLS 1 and 2, whose number is 1000, 3, 0
            share(1) = 666667; share(2) = 333333; hear(0, 0, 0) = NOT; count(6) = 0; share(0) = 0; share(1) = 666667
            share(2) = 333333; hear(0, 0, 0) = NOT; hear(0, 1, 0) = 2; share(1) = 666667; dead(1, true) = 1
            hear(0, 0, 0) = 2; share(2) = 333333; dead(1, false) = 1; known(0) = 1; hear(0, 0, 0) = 1
            share(0) = 1000000; alike() = 333333; hear(0, 0, 0) = 1; share(0) = 1000000
            """);
    }

    private static void hearRefusals() {
        CHECK.sentence("15: BAD: SHEET");
        new Run(CHECK).calls("""
            sheet(0, 0, 8) = 8; sheet(3, 0, 8) = 8; hear(-1, 0, 0) = BAD; hear(4, 0, 0) = BAD; hear(MIN, 0, 0) = BAD
            hear(MAX, 0, 0) = BAD; count(6) = 0; hear(0, 0, 0) = 16; hear(3, 0, 0) = 16
            """);
        CHECK.sentence("15: BAD: OFFSET (-4 to 4)");
        new Run(CHECK).calls("""
            sheet(0, 0, 8) = 8; hear(0, 0, -5) = BAD; hear(0, 0, 5) = BAD; hear(0, 0, MIN) = BAD
            hear(0, 0, MAX) = BAD; hear(0, 0, -4) = 16; hear(0, 0, 4) = 16; count(6) = 0
            """);
        CHECK.sentence("15: BAD ahead of NULL, NULL ahead of INDEX, INDEX ahead of NOT");
        String often = "building(1, 2, 1)" + "; survey(0, 0, 0)".repeat(9);
        new Run(CHECK).rows(0, new int[] {1, 1, 1, 1, 1, 1, 1, 1}).prepared(often).calls("""
            known(1) = 1; hear(1, 0, 5) = BAD; hear(1, -1, -5) = BAD; count(6) = 0; hear(1, 0, 4) = NULL; count(6) = 1
            hear(1, -1, 0) = NULL; hear(1, 30, 0) = NULL; hear(0, 1, 5) = BAD; count(6) = 1; hear(0, 1, 0) = INDEX
            count(6) = 2; hear(0, -1, 0) = INDEX; lose(1) = NULL; hear(0, 0, 0) = NOT; count(6) = 1
            """);
    }

    private static void share() {
        CHECK.sentence("16: The SHARE of a CELL: none, all; BAD");
        new Run(CHECK).calls("""
            building(2, 6, 6) = 72; known(71) = 1; share(0) = 0; share(70) = 0; share(71) = 1000000; share(72) = BAD
            share(-1) = BAD; share(MIN) = BAD; share(MAX) = BAD; building(1, 1, 1) = 1; share(0) = 1000000
            share(1) = BAD
            """);
    }

    private static void likeliest() {
        CHECK.sentence("17: of like ones the least: all alike");
        new Run(CHECK).calls("""
            building(1, 4, 4) = 16; likeliest() = 0; building(1, 1, 1) = 1; likeliest() = 0; building(1, 5, 2) = 10
            likeliest() = 0
            """);
        CHECK.sentence("17: of like ones the least: some");
        new Run(CHECK).calls("""
            building(1, 3, 3) = 9; stay(0) = 1; known(4) = 1; lead(1) = 4; likeliest() = 1; known(8) = 1; lead(1) = 2
            likeliest() = 5; share(5) = 500000; share(7) = 500000
            """);
        CHECK.sentence("17: the greatest SHARE in the first and in the last CELL");
        new Run(CHECK).calls("""
            building(3, 4, 6) = 72; known(71) = 1; likeliest() = 71; known(0) = 1; likeliest() = 0; known(70) = 1
            likeliest() = 70
            """);
    }

    private static void within() {
        CHECK.sentence("18: an AREA of one CELL, of a whole FLOOR");
        new Run(CHECK).calls("""
            building(2, 3, 2) = 12; known(8) = 1; within(1, 2, 2, 0, 0) = 1000000; within(1, 1, 1, 0, 0) = 0
            within(1, 2, 2, 1, 1) = 0; within(0, 2, 2, 0, 0) = 0; within(1, 0, 2, 0, 1) = 1000000
            within(0, 0, 2, 0, 1) = 0; within(1, 0, 1, 0, 1) = 0; within(1, 0, 2, 1, 1) = 0; alike() = 83333
            within(0, 0, 0, 0, 0) = 83334; within(1, 2, 2, 1, 1) = 83333; within(0, 0, 2, 0, 1) = 500002
            within(1, 0, 2, 0, 1) = 499998
            """);
        CHECK.sentence("18: BAD: no such AREA");
        new Run(CHECK).calls("""
            building(2, 3, 2) = 12; within(-1, 0, 0, 0, 0) = BAD; within(2, 0, 0, 0, 0) = BAD
            within(0, -1, 0, 0, 0) = BAD; within(0, 0, 3, 0, 0) = BAD; within(0, 0, 0, -1, 0) = BAD
            within(0, 0, 0, 0, 2) = BAD; within(0, 1, 0, 0, 0) = BAD; within(0, 0, 0, 1, 0) = BAD
            within(0, 3, 3, 0, 0) = BAD; within(0, 0, 0, 2, 2) = BAD; within(0, -1, -1, 0, 0) = BAD
            within(0, 2, 1, 1, 0) = BAD; within(MIN, 0, 0, 0, 0) = BAD; within(MAX, 0, 0, 0, 0) = BAD
            within(0, MIN, MAX, 0, 0) = BAD; within(0, 0, 0, MIN, MAX) = BAD; within(0, 0, MAX, 0, 0) = BAD
            within(0, MIN, 0, 0, 0) = BAD; within(0, 0, 0, MIN, 0) = BAD; within(0, 0, 0, 0, MAX) = BAD; count(6) = 0
            building(1, 1, 1) = 1; within(0, 0, 0, 0, 0) = 1000000; within(1, 0, 0, 0, 0) = BAD
            within(0, 0, 1, 0, 0) = BAD
            """);
    }

    private static void sure() {
        CHECK.sentence("19: 0 to 1000000; else BAD");
        new Run(CHECK).calls("""
            sure(-1) = BAD; sure(1000001) = BAD; sure(MIN) = BAD; sure(MAX) = BAD; sure(0) = 0; sure(1) = 1
            sure(1000000) = 16
            """);
        CHECK.sentence("19: together have at least so much");
        new Run(CHECK).calls("""
            building(1, 3, 1) = 3; known(0) = 1; lead(1) = 2; sure(666667) = 1; sure(666668) = 2; sure(999999) = 2
            sure(1000000) = 2; lead(1) = 3; sure(377778) = 1; sure(377779) = 2; sure(733333) = 2; sure(733334) = 3
            sure(1000000) = 3
            """);
        CHECK.sentence("19: one CELL has all");
        new Run(CHECK).calls("known(15) = 1; sure(0) = 0; sure(1) = 1; sure(1000000) = 1");
        CHECK.sentence("19: all 72 CELLS");
        new Run(CHECK).calls("""
            building(2, 6, 6) = 72; sure(1000000) = 72; sure(986112) = 71; sure(986113) = 72; sure(13889) = 1
            sure(13890) = 2
            """);
    }
}
