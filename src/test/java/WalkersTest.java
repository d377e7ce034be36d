/** Promises 24 to 26: put, least, give. */
final class WalkersTest {
    private static final Check CHECK = new Check("WalkersTest");
    /** x0 and x1 of three, y0 and y1 of two; no AREA where one is above the other. */
    private static final int AREAS = 3 * 3 * 2 * 2;

    public static void main(String[] args) {
        putting();
        puttingForgets();
        puttingRefused();
        leastOnes();
        numbers();
        areasThatPart();
        areasOfFloors();
        fullness();
        giveRefusals();
        everyTwoAreas();
        CHECK.end();
    }

    private static void putting() {
        Place x = new Place();
        CHECK.due("put(0, 3)", x.put(0, 3), InsidePlaces.NONE);
        CHECK.due("put(0, 3)", x.put(0, 3), 3);
        CHECK.due("put(19, 15)", x.put(19, 15), InsidePlaces.NONE);
        CHECK.due("put(19, 0)", x.put(19, 0), 15);
        CHECK.due("count(10)", x.count(10), 2);
        CHECK.due("put(0, -1)", x.put(0, -1), 3);
        CHECK.due("put(0, -1)", x.put(0, -1), InsidePlaces.NONE);
        CHECK.due("count(10)", x.count(10), 1);
        for (int walker = 0; walker < 20; walker++) {
            x.put(walker, walker % 16);
        }
        CHECK.due("count(10)", x.count(10), 20);
    }

    private static void puttingForgets() {
        Place x = withWalkers(5, 0);
        CHECK.due("give", x.give(0, 0, 0, 0, 0), 3);
        CHECK.due("give too near", x.give(0, 0, 1, 0, 0), InsidePlaces.NOT);
        CHECK.due("put(0, 0) where it is", x.put(0, 0), 0);
        CHECK.due("count(5)", x.count(5), 0);
        CHECK.due("give after put", x.give(0, 0, 1, 0, 0), 3);
        CHECK.due("put(19, -1) that is nowhere", x.put(19, -1), InsidePlaces.NONE);
        CHECK.due("count(5)", x.count(5), 0);
        CHECK.due("give after put", x.give(0, 0, 0, 0, 0), 3);
        CHECK.due("put(20, 0)", x.put(20, 0), InsidePlaces.BAD);
        CHECK.due("count(5) after BAD", x.count(5), 1);
    }

    private static Place withWalkers(int walkers, int cell) {
        Place x = new Place();
        for (int walker = 0; walker < walkers; walker++) {
            x.put(walker, cell);
        }
        return x;
    }

    private static void puttingRefused() {
        Place x = withWalkers(4, 5);
        x.give(0, 1, 1, 1, 1);
        long before = x.digest();
        int[][] bad = {{-1, 0}, {20, 0}, {0, -2}, {0, 16}, {20, -1}, {Integer.MAX_VALUE, 0}, {0, Integer.MIN_VALUE},
            {0, Integer.MAX_VALUE}, {Integer.MIN_VALUE, 0}};
        for (int[] call : bad) {
            CHECK.due("put(bad)", x.put(call[0], call[1]), InsidePlaces.BAD);
            CHECK.same("put(bad)", x, before, 0);
        }
        x.building(1, 2, 2);
        CHECK.due("put(0, 4) of 4 CELLS", x.put(0, 4), InsidePlaces.BAD);
        CHECK.due("put(0, 3) of 4 CELLS", x.put(0, 3), InsidePlaces.NONE);
    }

    private static void leastOnes() {
        Place x = withWalkers(20, 6);
        int was = 3;
        for (int n = 1; n <= 20; n++) {
            CHECK.due("least(" + n + ")", x.least(n), was);
            CHECK.due("count(8)", x.count(8), n);
            CHECK.due("count(5) after least(" + n + ")", x.count(5), 0);
            CHECK.due("give by " + n, x.give(0, 2, 2, 1, 1), 20 - 20 % n);
            CHECK.due("count(5)", x.count(5), 1);
            was = n;
        }
        long before = x.digest();
        int[] bad = {0, -1, 21, Integer.MIN_VALUE, Integer.MAX_VALUE};
        for (int n : bad) {
            CHECK.due("least(" + n + ")", x.least(n), InsidePlaces.BAD);
            CHECK.same("least(" + n + ")", x, before, 0);
        }
        CHECK.due("least(20) as it is", x.least(20), 20);
        CHECK.due("count(5) after least(20)", x.count(5), 0);
    }

    private static void numbers() {
        for (int walkers = 0; walkers <= 20; walkers++) {
            for (int least = 1; least <= 20; least++) {
                Place x = withWalkers(walkers, 9);
                x.least(least);
                int due = walkers < least ? InsidePlaces.NOT : walkers - walkers % least;
                CHECK.due(walkers + " by " + least, x.give(0, 0, 1, 1, 3), due);
                CHECK.due(walkers + " elsewhere", x.give(0, 2, 3, 1, 3), InsidePlaces.NOT);
                CHECK.due("count(5)", x.count(5), due > 0 ? 1 : 0);
            }
        }
    }

    private static void areasThatPart() {
        Place x = withWalkers(6, 5);
        CHECK.due("give 4 CELLS", x.give(0, 0, 1, 0, 1), 6);
        CHECK.due("2 CELLS less", x.give(0, 1, 1, 0, 1), InsidePlaces.NOT);
        CHECK.due("2 CELLS more", x.give(0, 0, 2, 0, 1), InsidePlaces.NOT);
        CHECK.due("3 CELLS less", x.give(0, 1, 1, 1, 1), 6);
        CHECK.due("2 and 2 others", x.give(0, 1, 2, 0, 1), 6);
        CHECK.due("3 and 3 others", x.give(0, 1, 2, 1, 2), 6);
        CHECK.due("the first again", x.give(0, 0, 1, 0, 1), 6);
        CHECK.due("count(5)", x.count(5), 4);
        x.least(4);
        CHECK.due("give 4 CELLS", x.give(0, 0, 1, 0, 1), 4);
        CHECK.due("3 CELLS less", x.give(0, 1, 1, 1, 1), InsidePlaces.NOT);
        CHECK.due("4 apart", x.give(0, 1, 2, 0, 1), 4);
        CHECK.due("count(5)", x.count(5), 2);
    }

    private static void areasOfFloors() {
        Place x = new Place();
        x.building(2, 2, 2);
        for (int walker = 0; walker < 10; walker++) {
            x.put(walker, walker < 4 ? 1 : 5);
        }
        CHECK.due("give below", x.give(0, 1, 1, 0, 0), 3);
        // One CELL here and one CELL there: two CELLS apart.
        CHECK.due("give above", x.give(1, 1, 1, 0, 0), InsidePlaces.NOT);
        CHECK.due("give two above", x.give(1, 0, 1, 0, 0), 6);
        x.least(2);
        CHECK.due("give below", x.give(0, 1, 1, 0, 0), 4);
        CHECK.due("give above", x.give(1, 1, 1, 0, 0), 6);
        CHECK.due("count(5)", x.count(5), 2);
    }

    private static void fullness() {
        Place x = new Place();
        x.building(1, 6, 6);
        for (int walker = 0; walker < 20; walker++) {
            x.put(walker, 0);
        }
        x.least(1);
        for (int i = 0; i < 30; i++) {
            CHECK.due("give " + i, x.give(0, 0, i % 6, 0, i / 6), 20);
            CHECK.due("count(5)", x.count(5), i + 1);
        }
        long before = x.digest();
        CHECK.due("give 30", x.give(0, 0, 0, 0, 5), InsidePlaces.FULL);
        CHECK.due("give of none", x.give(0, 1, 1, 0, 5), InsidePlaces.NOT);
        CHECK.due("give of no AREA", x.give(0, 0, 6, 0, 5), InsidePlaces.BAD);
        CHECK.same("FULL", x, before, 0);
        for (int i = 0; i < 30; i++) {
            CHECK.due("give again " + i, x.give(0, 0, i % 6, 0, i / 6), 20);
        }
        CHECK.same("giving again", x, before, 0);
        x.put(19, -1);
        CHECK.due("give 30 after put", x.give(0, 0, 0, 0, 5), 19);
        // With LEAST 2 an AREA may be both too near and one too many: it is refused.
        x.least(2);
        fillUp(x);
        CHECK.due("too near and too many", x.give(0, 0, 0, 0, 3), InsidePlaces.NOT);
        CHECK.due("too many", x.give(0, 2, 2, 3, 3), InsidePlaces.FULL);
    }

    private static void fillUp(Place x) {
        x.building(1, 6, 6);
        for (int walker = 0; walker < 20; walker++) {
            x.put(walker, walker % 2 == 0 ? 0 : 20);
        }
        x.give(0, 0, 0, 0, 4);
        for (int y0 = 0; y0 < 4; y0++) {
            for (int x0 = 0; x0 < 3; x0++) {
                for (int x1 = 2; x1 < 6; x1++) {
                    for (int y1 = 3; y1 < 6; y1++) {
                        if (x.count(5) < 30 && (x0 + x1 + y0 + y1) % 2 == 0) {
                            x.give(0, x0, x1, y0, y1);
                        }
                    }
                }
            }
        }
        CHECK.due("count(5) of the filled", x.count(5), 30);
    }

    private static void giveRefusals() {
        Place x = withWalkers(9, 0);
        long before = x.digest();
        int[][] bad = {{-1, 0, 0, 0, 0}, {1, 0, 0, 0, 0}, {0, -1, 0, 0, 0}, {0, 1, 0, 0, 0}, {0, 0, 4, 0, 0},
            {0, 0, 0, -1, 0}, {0, 0, 0, 1, 0}, {0, 0, 0, 0, 4}, {0, 4, 4, 0, 0}, {0, 0, 0, 4, 4}};
        for (int[] a : bad) {
            CHECK.due("give(bad)", x.give(a[0], a[1], a[2], a[3], a[4]), InsidePlaces.BAD);
        }
        int max = Integer.MAX_VALUE;
        int min = Integer.MIN_VALUE;
        CHECK.due("give(wild)", x.give(max, 0, 0, 0, 0), InsidePlaces.BAD);
        CHECK.due("give(wild)", x.give(0, min, max, min, max), InsidePlaces.BAD);
        CHECK.due("give(wild)", x.give(0, 0, max, 0, 0), InsidePlaces.BAD);
        CHECK.due("give(wild)", x.give(0, 0, 0, min, 0), InsidePlaces.BAD);
        CHECK.same("give BAD", x, before, 0);
        CHECK.due("give of too few", x.give(0, 1, 3, 0, 3), InsidePlaces.NOT);
        CHECK.same("give NOT", x, before, 0);
    }

    /** Any two AREAS of a small building: the second is refused just where the CELLS say so. */
    private static void everyTwoAreas() {
        for (int least = 2; least <= 5; least++) {
            for (int first = 0; first < AREAS; first++) {
                if (maskOf(first) != 0) {
                    everySecondArea(least, first);
                }
            }
        }
    }

    private static void everySecondArea(int least, int first) {
        Place x = new Place();
        x.building(1, 3, 2);
        for (int walker = 0; walker < 20; walker++) {
            x.put(walker, walker % 6);
        }
        for (int second = 0; second < AREAS; second++) {
            long two = maskOf(second);
            if (two != 0) {
                x.least(least);
                int given = giveCode(x, first);
                int parts = Long.bitCount(maskOf(first) ^ two);
                int number = walkersIn(two);
                boolean refused = number < least || given > 0 && parts > 0 && parts < least;
                int due = refused ? InsidePlaces.NOT : number - number % least;
                CHECK.due("give " + second + " after " + first + " by " + least, giveCode(x, second), due);
            }
        }
    }

    private static int giveCode(Place x, int code) {
        return x.give(0, code % 3, code / 3 % 3, code / 9 % 2, code / 18 % 2);
    }

    private static long maskOf(int code) {
        long mask = 0;
        for (int y = code / 9 % 2; y <= code / 18 % 2; y++) {
            for (int at = code % 3; at <= code / 3 % 3; at++) {
                mask |= 1L << 3 * y + at;
            }
        }
        return mask;
    }

    private static int walkersIn(long mask) {
        int number = 0;
        for (int walker = 0; walker < 20; walker++) {
            number += mask >> walker % 6 & 1;
        }
        return number;
    }
}
