/** The edges of walkers and areas, promises 24 to 26: a test of its own for each sentence that names one. */
final class WalkersEdgesTest {
    private static final Check CHECK = new Check("WalkersEdgesTest");

    public static void main(String[] args) {
        put();
        putRefusals();
        least();
        giveNumbers();
        giveWhereNobodyIs();
        giveAreas();
        partingAreas();
        partingByLeast();
        partingOverFloors();
        givenSince();
        thirtyAreas();
        fullAndNot();
        CHECK.end();
    }

    /** A new object with walkers put into one CELL. */
    private static Run with(int walkers, int cell) {
        Run run = new Run(CHECK);
        for (int walker = 0; walker < walkers; walker++) {
            run.ask("put(" + walker + ", " + cell + ")");
        }
        return run;
    }

    private static void put() {
        CHECK.sentence("24: WALKERS 0 .. 19");
        new Run(CHECK).calls("""
            put(0, 0) = NONE; put(19, 15) = NONE; put(-1, 0) = BAD; put(20, 0) = BAD; put(MIN, 0) = BAD
            put(MAX, 0) = BAD; put(-1, NONE) = BAD; put(20, NONE) = BAD; count(10) = 2; put(19, 0) = 15
            put(0, 15) = 0
            """);
        CHECK.sentence("24: put into a CELL: the first and the last");
        new Run(CHECK).calls("""
            building(2, 6, 6) = 72; put(3, 0) = NONE; put(3, 71) = 0; put(3, 71) = 71; put(3, 72) = BAD
            put(3, -2) = BAD; put(3, MIN) = BAD; put(3, MAX) = BAD; put(3, NONE) = 71; count(10) = 0
            building(1, 1, 1) = 1; put(3, 1) = BAD; put(3, 0) = NONE
            """);
        CHECK.sentence("24: NONE: nowhere; where it was (NONE)");
        new Run(CHECK).calls("""
            put(7, NONE) = NONE; put(7, 0) = NONE; put(7, NONE) = 0; put(7, NONE) = NONE; count(10) = 0
            put(7, 4) = NONE; put(7, 4) = 4; count(10) = 1
            """);
        CHECK.sentence("24: all 20 WALKERS in one CELL");
        Run run = with(20, 15).calls("""
            count(10) = 20; least(20) = 3; give(0, 3, 3, 3, 3) = 20; give(0, 0, 2, 0, 3) = NOT
            """);
        for (int walker = 0; walker < 20; walker++) {
            run.due("put(" + walker + ", NONE)", 15).due("count(10)", 19 - walker);
        }
    }

    private static void putRefusals() {
        CHECK.sentence("24: BAD: nobody is put anywhere then");
        with(3, 5).calls("""
            give(0, 1, 1, 1, 1) = 3; put(20, 5) = BAD; put(0, 16) = BAD; put(0, -2) = BAD; count(5) = 1; count(10) = 3
            give(0, 1, 2, 1, 1) = NOT; put(0, NONE) = 5
            """);
    }

    private static void least() {
        CHECK.sentence("25: LEAST 1 to 20: what it was; else BAD");
        new Run(CHECK).calls("""
            least(0) = BAD; least(21) = BAD; least(-1) = BAD; least(MIN) = BAD; least(MAX) = BAD; count(8) = 3
            least(1) = 3; count(8) = 1; least(20) = 1; count(8) = 20; least(20) = 20
            """);
        CHECK.sentence("25: no AREA was GIVEN then");
        with(4, 5).calls("""
            give(0, 1, 1, 1, 1) = 3; count(5) = 1; least(21) = BAD; least(0) = BAD; count(5) = 1; least(3) = 3
            count(5) = 0; give(0, 1, 2, 1, 1) = 3; least(2) = 3; count(5) = 0; give(0, 1, 1, 1, 1) = 4; count(5) = 1
            """);
    }

    private static void giveNumbers() {
        CHECK.sentence("26: if there are fewer than LEAST: refused");
        for (int least = 1; least <= 20; least++) {
            with(least - 1, 5).due("least(" + least + ")", 3).due("give(0, 0, 3, 0, 3)", -3).due("count(5)", 0);
            with(least, 5).due("least(" + least + ")", 3).due("give(0, 0, 3, 0, 3)", least).due("count(5)", 1);
        }
        CHECK.sentence("26: their number, rounded down to a multiple of LEAST");
        with(19, 0).calls("""
            least(1) = 3; give(0, 0, 0, 0, 0) = 19; least(2) = 1; give(0, 0, 0, 0, 0) = 18; least(3) = 2
            give(0, 0, 0, 0, 0) = 18; least(4) = 3; give(0, 0, 0, 0, 0) = 16; least(5) = 4; give(0, 0, 0, 0, 0) = 15
            least(6) = 5; give(0, 0, 0, 0, 0) = 18; least(9) = 6; give(0, 0, 0, 0, 0) = 18; least(10) = 9
            give(0, 0, 0, 0, 0) = 10; least(18) = 10; give(0, 0, 0, 0, 0) = 18; least(19) = 18
            give(0, 0, 0, 0, 0) = 19; least(20) = 19; give(0, 0, 0, 0, 0) = NOT
            """);
        with(20, 0).calls("""
            least(7) = 3; give(0, 0, 0, 0, 0) = 14; least(20) = 7; give(0, 0, 0, 0, 0) = 20; least(11) = 20
            give(0, 0, 0, 0, 0) = 11
            """);
    }

    private static void giveWhereNobodyIs() {
        CHECK.sentence("26: nobody in an AREA: refused, also by LEAST 1");
        new Run(CHECK).calls("""
            least(1) = 3; give(0, 0, 3, 0, 3) = NOT; put(0, 5) = NONE; give(0, 1, 1, 1, 1) = 1
            give(0, 0, 0, 0, 3) = NOT; give(0, 0, 3, 0, 0) = NOT; give(0, 2, 3, 0, 3) = NOT; give(0, 0, 3, 2, 3) = NOT
            count(5) = 1; put(0, NONE) = 5; give(0, 0, 3, 0, 3) = NOT; count(5) = 0
            """);
        CHECK.sentence("26: WALKERS of another FLOOR, or nowhere, are not in it");
        new Run(CHECK).calls("""
            building(3, 2, 2) = 12; least(1) = 3; put(0, 7) = NONE; put(1, 3) = NONE; put(2, NONE) = NONE
            give(1, 1, 1, 1, 1) = 1; give(0, 1, 1, 1, 1) = 1; give(2, 1, 1, 1, 1) = NOT; give(2, 0, 1, 0, 1) = NOT
            give(1, 0, 1, 0, 1) = 1; give(1, 0, 0, 0, 1) = NOT
            """);
    }

    private static void giveAreas() {
        CHECK.sentence("26: an AREA of one CELL, of a whole FLOOR");
        new Run(CHECK).calls("""
            building(2, 3, 2) = 12; least(1) = 3; put(0, 0) = NONE; put(1, 11) = NONE; put(2, 6) = NONE
            give(0, 0, 0, 0, 0) = 1; give(0, 0, 2, 0, 1) = 1; give(1, 0, 2, 0, 1) = 2; give(1, 2, 2, 1, 1) = 1
            give(1, 0, 1, 0, 1) = 1; give(1, 0, 2, 0, 0) = 1; count(5) = 6
            """);
        CHECK.sentence("26: BAD: no such AREA");
        with(20, 0).calls("""
            building(2, 3, 2) = 12; least(1) = 3; put(0, 0) = NONE; give(-1, 0, 0, 0, 0) = BAD
            give(2, 0, 0, 0, 0) = BAD; give(0, -1, 0, 0, 0) = BAD; give(0, 0, 3, 0, 0) = BAD
            give(0, 0, 0, -1, 0) = BAD; give(0, 0, 0, 0, 2) = BAD; give(0, 1, 0, 0, 0) = BAD
            give(0, 0, 0, 1, 0) = BAD; give(0, 3, 3, 0, 0) = BAD; give(0, 0, 0, 2, 2) = BAD; give(0, 2, 0, 1, 0) = BAD
            give(MIN, 0, 0, 0, 0) = BAD; give(MAX, 0, 0, 0, 0) = BAD; give(0, MIN, 0, 0, 0) = BAD
            give(0, 0, MAX, 0, 0) = BAD; give(0, 0, 0, MIN, 0) = BAD; give(0, 0, 0, 0, MAX) = BAD
            give(0, MIN, MAX, MIN, MAX) = BAD; count(5) = 0; count(6) = 0; give(0, 0, 2, 0, 1) = 1
            building(1, 1, 1) = 1; give(0, 0, 0, 0, 0) = NOT; put(0, 0) = NONE; give(0, 0, 0, 0, 0) = 1
            give(1, 0, 0, 0, 0) = BAD
            """);
    }

    private static void partingAreas() {
        CHECK.sentence("26: refused, if it parts from an AREA that was GIVEN in fewer CELLS than LEAST");
        with(3, 5).calls("""
            give(0, 0, 1, 0, 1) = 3
            give(0, 0, 1, 1, 1) = NOT; give(0, 1, 1, 0, 1) = NOT   # two CELLS less
            give(0, 0, 2, 0, 1) = NOT; give(0, 0, 1, 0, 2) = NOT   # two CELLS more
            give(0, 1, 1, 1, 1) = 3; count(5) = 2                  # three less: as many as LEAST
            give(0, 1, 2, 1, 2) = 3; count(5) = 3                  # three and three
            give(0, 1, 1, 1, 3) = NOT                              # from the second two more
            """);
        CHECK.sentence("26: parts in fewer CELLS than LEAST: AREAS that have no CELL together, near or far");
        String corners = """
            building(1, 6, 6) = 36; put(0, 0) = NONE; put(1, 0) = NONE; put(2, 0) = NONE; put(3, 5) = NONE
            put(4, 5) = NONE; put(5, 5) = NONE; put(6, 30) = NONE; put(7, 30) = NONE; put(8, 30) = NONE
            put(9, 35) = NONE; put(10, 35) = NONE; put(11, 35) = NONE; give(0, 0, 0, 0, 0) = 3
            """;
        new Run(CHECK).calls(corners).calls("""
            give(0, 5, 5, 0, 0) = NOT; give(0, 0, 0, 5, 5) = NOT; give(0, 5, 5, 5, 5) = NOT   # two CELLS
            give(0, 4, 5, 0, 0) = 3; give(0, 0, 0, 4, 5) = 3; give(0, 4, 5, 5, 5) = 3; count(5) = 4
            """);
        CHECK.sentence("26: but not in none: an AREA that was GIVEN is GIVEN again");
        with(5, 5).calls("""
            give(0, 1, 1, 1, 1) = 3; give(0, 1, 1, 1, 1) = 3; count(5) = 1; least(20) = 3; give(0, 1, 1, 1, 1) = NOT
            """);
        CHECK.sentence("26: CELLS that one of both alone has, of this one and of that one");
        with(3, 5).calls("least(2) = 3; give(0, 0, 1, 1, 1) = 2; give(0, 1, 2, 1, 1) = 2   # one and one");
        with(3, 5).calls("give(0, 0, 1, 1, 1) = 3; give(0, 1, 2, 1, 1) = NOT   # one and one");
        with(3, 5).calls("""
            least(1) = 3; put(3, 0) = NONE; give(0, 0, 0, 0, 0) = 1; give(0, 1, 1, 1, 1) = 3; least(2) = 1
            give(0, 1, 1, 1, 1) = 2
            """);
        CHECK.sentence("26: from some AREA: from any of them");
        with(20, 5).calls("""
            give(0, 0, 3, 0, 3) = 18; give(0, 0, 1, 0, 1) = 18; give(0, 1, 3, 1, 3) = 18; count(5) = 3
            give(0, 1, 1, 0, 1) = NOT; give(0, 1, 3, 0, 3) = 18; give(0, 0, 3, 0, 2) = 18; give(0, 1, 2, 1, 3) = 18
            count(5) = 6; give(0, 1, 2, 1, 2) = NOT; count(5) = 6
            """);
        CHECK.sentence("26: an AREA that was refused was not GIVEN");
        with(3, 5).calls("""
            give(0, 2, 2, 2, 2) = NOT; count(5) = 0; give(0, 1, 2, 1, 2) = 3; give(0, 1, 1, 1, 2) = NOT; count(5) = 1
            give(0, 1, 1, 1, 1) = 3; count(5) = 2
            """);
    }

    private static void partingByLeast() {
        CHECK.sentence("26: LEAST 1: nothing parts in fewer CELLS, but in none");
        with(1, 5).calls("""
            least(1) = 3; give(0, 1, 1, 1, 1) = 1; give(0, 1, 2, 1, 1) = 1; give(0, 0, 2, 1, 1) = 1
            give(0, 1, 1, 0, 1) = 1; count(5) = 4
            """);
        CHECK.sentence("26: LEAST 20: 19 CELLS and 20 CELLS apart");
        Run run = with(20, 0).calls("building(1, 6, 6) = 36");
        for (int walker = 0; walker < 20; walker++) {
            run.due("put(" + walker + ", 0)", -1);
        }
        run.calls("""
            least(20) = 3; give(0, 0, 0, 0, 0) = 20; give(0, 0, 3, 0, 4) = NOT   # 20 CELLS: 19 apart
            give(0, 0, 2, 0, 5) = NOT; give(0, 0, 5, 0, 2) = NOT; give(0, 0, 5, 0, 3) = 20   # 24: 23 apart
            least(19) = 20; give(0, 0, 0, 0, 0) = 19; give(0, 0, 3, 0, 4) = 19; count(5) = 2
            # 4 and 16 apart
            least(20) = 19; give(0, 0, 5, 0, 5) = 20; give(0, 0, 3, 0, 3) = 20; give(0, 0, 3, 0, 4) = NOT
            least(20) = 20; give(0, 0, 3, 0, 4) = 20; give(0, 0, 5, 0, 5) = NOT   # 16 apart
            """);
    }

    private static void partingOverFloors() {
        CHECK.sentence("26: AREAS of two FLOORS part in all CELLS of both");
        String two = """
            building(2, 2, 2) = 8; put(0, 0) = NONE; put(1, 0) = NONE; put(2, 0) = NONE; put(3, 4) = NONE
            put(4, 4) = NONE; put(5, 4) = NONE
            """;
        new Run(CHECK).calls(two).calls("give(0, 0, 0, 0, 0) = 3; give(1, 0, 0, 0, 0) = NOT   # two CELLS");
        new Run(CHECK).calls(two).calls("give(0, 0, 0, 0, 0) = 3; give(1, 0, 1, 0, 0) = 3     # three");
        new Run(CHECK).calls(two).calls("least(2) = 3; give(0, 0, 0, 0, 0) = 2; give(1, 0, 0, 0, 0) = 2; count(5) = 2");
    }

    private static void givenSince() {
        CHECK.sentence("26: that was GIVEN since a WALKER was last put anywhere: into the CELL where it is");
        with(3, 5).calls("""
            give(0, 1, 1, 1, 1) = 3; give(0, 1, 2, 1, 1) = NOT; put(0, 5) = 5; count(5) = 0; give(0, 1, 2, 1, 1) = 3
            give(0, 1, 1, 1, 1) = NOT
            """);
        CHECK.sentence("26: that was GIVEN since a WALKER was last put anywhere: into another CELL");
        with(3, 5).calls("""
            give(0, 1, 1, 1, 1) = 3; put(0, 6) = 5; count(5) = 0; give(0, 1, 1, 1, 1) = NOT; give(0, 1, 2, 1, 1) = 3
            """);
        CHECK.sentence("26: that was GIVEN since a WALKER was last put anywhere: nowhere");
        with(4, 5).calls("""
            give(0, 1, 1, 1, 1) = 3; put(3, NONE) = 5; count(5) = 0; give(0, 1, 2, 1, 1) = 3; put(19, NONE) = NONE
            count(5) = 0; give(0, 1, 1, 1, 1) = 3
            """);
        CHECK.sentence("26: no other call forgets the AREAS that were GIVEN");
        with(3, 5).calls("""
            give(0, 1, 1, 1, 1) = 3; wall(0, 1, true) = 1; lift(0, 0, true) = 1; stay(2) = 1; dead(1, true) = 1
            known(3) = 1; lead(1) = 3; alike() = 62500; sheet(0, 0, 8) = 8; survey(0, 0, 0) = 8; best(0) = 14
            learn(0) = 1; hear(0, 0, 0) = 1; lose(0) = 8; building(4, 1, 1) = BAD; count(5) = 1
            give(0, 1, 2, 1, 1) = NOT
            """);
    }

    private static void thirtyAreas() {
        CHECK.sentence("26: 30 AREAS at most are GIVEN between; FULL");
        Run run = new Run(CHECK).calls("building(1, 6, 6) = 36; least(1) = 3; put(0, 0) = NONE");
        for (int i = 0; i < 30; i++) {
            run.due("count(5)", i).due("give(0, 0, " + i % 6 + ", 0, " + i / 6 + ")", 1);
        }
        run.calls("count(5) = 30; give(0, 0, 0, 0, 5) = FULL; give(0, 0, 5, 0, 5) = FULL; count(5) = 30; count(6) = 0");
        CHECK.sentence("26: one that was GIVEN already is no new one");
        for (int i = 0; i < 30; i++) {
            run.due("give(0, 0, " + i % 6 + ", 0, " + i / 6 + ")", 1);
        }
        run.calls("count(5) = 30");
        CHECK.sentence("26: BAD and NOT also when 30 AREAS were GIVEN");
        run.calls("give(0, 0, 6, 0, 0) = BAD; give(0, 1, 1, 0, 0) = NOT; give(1, 0, 0, 0, 0) = BAD; count(5) = 30");
        CHECK.sentence("26: after a WALKER was put, after LEAST, 30 more");
        run.calls("put(19, NONE) = NONE; count(5) = 0; give(0, 0, 0, 0, 5) = 1; give(0, 0, 5, 0, 5) = 1; count(5) = 2");
        for (int i = 0; i < 28; i++) {
            run.ask("give(0, 0, " + i % 6 + ", 0, " + i / 6 + ")");
        }
        run.calls("""
            count(5) = 30; give(0, 0, 4, 0, 4) = FULL; least(1) = 1; count(5) = 0; give(0, 0, 4, 0, 4) = 1
            count(5) = 1
            """);
    }

    private static void fullAndNot() {
        CHECK.sentence("26: NOT ahead of FULL");
        Run run = new Run(CHECK).calls("""
            building(2, 6, 6) = 72; least(2) = 3; put(0, 0) = NONE; put(1, 0) = NONE; put(2, 36) = NONE
            put(3, 36) = NONE; give(0, 0, 0, 0, 0) = 2
            """);
        // Of AREAS from CELL 0 on, at least 2 by 2, any two are at least two CELLS apart.
        for (int i = 0; i < 25; i++) {
            run.due("give(0, 0, " + (1 + i % 5) + ", 0, " + (1 + i / 5) + ")", 2);
        }
        run.calls("""
            give(1, 0, 1, 0, 1) = 2; give(1, 0, 2, 0, 1) = 2; give(1, 0, 1, 0, 2) = 2; give(1, 0, 2, 0, 2) = 2
            count(5) = 30; give(0, 0, 0, 0, 2) = FULL; give(0, 0, 2, 0, 0) = FULL; give(1, 0, 5, 0, 5) = FULL
            give(0, 0, 0, 0, 1) = NOT; give(0, 0, 1, 0, 0) = NOT   # one CELL more than the first
            give(1, 1, 5, 1, 5) = NOT; give(1, 0, 5, 1, 5) = NOT   # nobody
            give(0, 0, 0, 0, 0) = 2; give(0, 0, 5, 0, 5) = 2; give(2, 0, 0, 0, 0) = BAD; count(5) = 30
            """);
    }
}
