/** Promises 1 to 7: a new object, building, wall, lift, stay, step, far. */
final class BuildingTest {
    private static final Check CHECK = new Check("BuildingTest");
    private static final int[] WILD = {Integer.MIN_VALUE, -1000, -5, 1000, 65536, Integer.MAX_VALUE};

    public static void main(String[] args) {
        newObject();
        buildingSizes();
        buildingClears();
        buildingLeaves();
        walls();
        wallsNotBeside();
        lifts();
        stays();
        stepsByGeometry();
        farness();
        CHECK.end();
    }

    private static void newObject() {
        Place x = new Place();
        int[] counts = {1, 4, 4, 0, 0, 0, 0, 1, 3, 0, 0};
        for (int what = 0; what < counts.length; what++) {
            CHECK.due("new: count(" + what + ")", x.count(what), counts[what]);
        }
        for (int cell = 0; cell < 16; cell++) {
            CHECK.due("new: share(" + cell + ")", x.share(cell), 62500);
        }
        CHECK.due("new: share(16)", x.share(16), InsidePlaces.BAD);
        for (int s = 0; s < 4; s++) {
            CHECK.due("new: lose(" + s + ")", x.lose(s), -11);
        }
        CHECK.due("new: way(0)", x.way(0), InsidePlaces.BAD);
        for (int walker = 0; walker < 20; walker++) {
            CHECK.due("new: put(" + walker + ", -1)", x.put(walker, -1), InsidePlaces.NONE);
        }
        for (int sender = 0; sender < 8; sender++) {
            newMap(sender);
        }
    }

    private static void newMap(int sender) {
        Place x = new Place();
        for (int cell = 0; cell < 16; cell++) {
            for (int heard = -1; heard <= 9; heard++) {
                CHECK.due("new: weight(" + sender + ", " + cell + ", " + heard + ")", x.weight(sender, cell, heard), 1);
            }
        }
    }

    private static void buildingSizes() {
        for (int floors = -1; floors <= 5; floors++) {
            for (int w = -1; w <= 8; w++) {
                for (int h = -1; h <= 8; h++) {
                    Place x = new Place();
                    long before = x.digest();
                    boolean good = floors >= 1 && floors <= 3 && w >= 1 && w <= 6 && h >= 1 && h <= 6
                        && floors * w * h <= 72;
                    String call = "building(" + floors + ", " + w + ", " + h + ")";
                    CHECK.due(call, x.building(floors, w, h), good ? floors * w * h : InsidePlaces.BAD);
                    if (good) {
                        CHECK.due(call + " count(0)", x.count(0), floors);
                        CHECK.due(call + " count(1)", x.count(1), w);
                        CHECK.due(call + " count(2)", x.count(2), h);
                    } else {
                        CHECK.same(call, x, before, 0);
                    }
                }
            }
        }
        Place x = new Place();
        for (int wild : WILD) {
            CHECK.due("building(wild)", x.building(wild, 2, 2), InsidePlaces.BAD);
            CHECK.due("building(wild)", x.building(2, wild, 2), InsidePlaces.BAD);
            CHECK.due("building(wild)", x.building(2, 2, wild), InsidePlaces.BAD);
            CHECK.due("building(wild)", x.building(wild, wild, wild), InsidePlaces.BAD);
        }
        CHECK.due("building(1, 65536, 65536)", x.building(1, 65536, 65536), InsidePlaces.BAD);
    }

    private static void buildingClears() {
        Place x = new Place();
        Place fresh = new Place();
        x.wall(0, 1, true);
        x.wall(0, 4, true);
        x.lift(0, 0, true);
        x.lift(3, 3, true);
        Check.fill(x, 0, new int[] {1, 2, 3, 4, 5, 6, 7, 8});
        x.survey(0, 0, 15);
        x.known(3);
        for (int walker = 0; walker < 5; walker++) {
            x.put(walker, 0);
        }
        CHECK.due("give before building", x.give(0, 0, 0, 0, 0), 3);
        CHECK.due("count(5) before building", x.count(5), 1);
        CHECK.due("building(1, 4, 4)", x.building(1, 4, 4), 16);
        CHECK.due("digest() after building", x.digest(), fresh.digest());
        CHECK.due("count(5) after building", x.count(5), 0);
        CHECK.due("count(10) after building", x.count(10), 0);
        CHECK.due("put(4, -1) after building", x.put(4, -1), InsidePlaces.NONE);
        CHECK.due("step(0, 1) after building", x.step(0, 1), 2);
        CHECK.due("step(0, 4) after building", x.step(0, 4), 2);
        CHECK.due("weight(7, 15, 8) after building", x.weight(7, 15, 8), 1);
        x.building(2, 4, 4);
        CHECK.due("step(0, 16) after building(2, 4, 4)", x.step(0, 16), 0);
        CHECK.due("step(15, 31) after building(2, 4, 4)", x.step(15, 31), 0);
        CHECK.due("share(31) after building(2, 4, 4)", x.share(31), 31250);
    }

    private static void buildingLeaves() {
        Place x = new Place();
        x.stay(7);
        x.dead(2, true);
        x.dead(5, true);
        x.least(4);
        Check.fill(x, 3, new int[] {1, 2}, new int[] {3, 4});
        CHECK.due("best(3)", x.best(3), 11);
        CHECK.due("lose(0)", x.lose(0), -11);
        CHECK.due("building(1, 2, 1)", x.building(1, 2, 1), 2);
        CHECK.due("count(7)", x.count(7), 7);
        CHECK.due("count(8)", x.count(8), 4);
        CHECK.due("count(9)", x.count(9), 36);
        CHECK.due("count(6)", x.count(6), 1);
        CHECK.due("step(1, 1)", x.step(1, 1), 7);
        CHECK.due("way(1)", x.way(1), 0);
        CHECK.due("get(3, 1, 9)", x.get(3, 1, 9), 4);
        CHECK.due("building(4, 1, 1)", x.building(4, 1, 1), InsidePlaces.BAD);
        CHECK.due("lose(3)", x.lose(3), 16);
    }

    private static void walls() {
        Place x = new Place();
        x.building(2, 3, 3);
        CHECK.due("wall(4, 5, false)", x.wall(4, 5, false), 0);
        CHECK.due("wall(5, 4, true)", x.wall(5, 4, true), 1);
        CHECK.due("wall(4, 5, true)", x.wall(4, 5, true), 0);
        CHECK.due("wall(4, 7, true)", x.wall(4, 7, true), 1);
        CHECK.due("wall(16, 13, true)", x.wall(16, 13, true), 1);
        CHECK.due("count(3)", x.count(3), 3);
        CHECK.due("step(4, 5)", x.step(4, 5), 0);
        CHECK.due("step(5, 4)", x.step(5, 4), 0);
        CHECK.due("step(4, 7)", x.step(4, 7), 0);
        CHECK.due("step(7, 4)", x.step(7, 4), 0);
        CHECK.due("step(4, 3)", x.step(4, 3), 2);
        CHECK.due("step(4, 1)", x.step(4, 1), 2);
        CHECK.due("step(13, 14)", x.step(13, 14), 2);
        CHECK.due("step(13, 16)", x.step(13, 16), 0);
        CHECK.due("wall(4, 5, false)", x.wall(4, 5, false), 1);
        CHECK.due("wall(5, 4, false)", x.wall(5, 4, false), 0);
        CHECK.due("step(5, 4)", x.step(5, 4), 2);
        CHECK.due("step(4, 7)", x.step(4, 7), 0);
        CHECK.due("count(3)", x.count(3), 2);
        // In a building one CELL wide, the CELL below is the next number.
        x.building(2, 1, 3);
        CHECK.due("wall(0, 1, true) of 1 wide", x.wall(0, 1, true), 1);
        CHECK.due("step(1, 0) of 1 wide", x.step(1, 0), 0);
        CHECK.due("step(1, 2) of 1 wide", x.step(1, 2), 2);
        CHECK.due("wall(2, 3, true) of 1 wide", x.wall(2, 3, true), InsidePlaces.BAD);
    }

    private static void wallsNotBeside() {
        int[][] sizes = {{1, 4, 4}, {2, 3, 2}, {3, 1, 4}, {3, 4, 1}, {3, 1, 1}, {1, 1, 1}, {2, 6, 6}};
        for (int[] size : sizes) {
            int cells = size[0] * size[1] * size[2];
            for (int a = -1; a <= cells; a++) {
                wallsOf(a, size, cells);
            }
            Place x = new Place();
            x.building(size[0], size[1], size[2]);
            for (int wild : WILD) {
                CHECK.due("wall(wild)", x.wall(wild, wild + 1, true), InsidePlaces.BAD);
                CHECK.due("wall(wild)", x.wall(0, wild, true), InsidePlaces.BAD);
            }
        }
    }

    /** From one number to every other: a WALL is made and taken away, or there can be none. */
    private static void wallsOf(int a, int[] size, int cells) {
        Place x = new Place();
        x.building(size[0], size[1], size[2]);
        x.lift(0, 0, true);
        for (int b = -1; b <= cells; b++) {
            boolean beside = isBeside(a, b, cells, size[1], size[2]);
            long before = x.digest();
            CHECK.due("wall(" + a + ", " + b + ", true)", x.wall(a, b, true), beside ? 1 : InsidePlaces.BAD);
            CHECK.due("wall(" + b + ", " + a + ", false)", x.wall(b, a, false), beside ? 1 : InsidePlaces.BAD);
            CHECK.same("wall there and back", x, before, 0);
        }
    }

    private static boolean isBeside(int a, int b, int cells, int w, int h) {
        if (a < 0 || b < 0 || a >= cells || b >= cells || a / (w * h) != b / (w * h)) {
            return false;
        }
        int dx = a % w - b % w;
        int dy = a / w % h - b / w % h;
        return dx * dx + dy * dy == 1;
    }

    private static void lifts() {
        Place x = new Place();
        x.building(3, 3, 2);
        CHECK.due("lift(2, 1, false)", x.lift(2, 1, false), 0);
        CHECK.due("lift(2, 1, true)", x.lift(2, 1, true), 1);
        CHECK.due("lift(2, 1, true)", x.lift(2, 1, true), 0);
        CHECK.due("lift(1, 0, true)", x.lift(1, 0, true), 1);
        CHECK.due("count(4)", x.count(4), 2);
        CHECK.due("step(5, 11)", x.step(5, 11), 1);
        CHECK.due("step(11, 5)", x.step(11, 5), 1);
        CHECK.due("step(11, 17)", x.step(11, 17), 1);
        CHECK.due("step(17, 11)", x.step(17, 11), 1);
        CHECK.due("step(5, 17)", x.step(5, 17), 0);
        CHECK.due("step(1, 7)", x.step(1, 7), 1);
        CHECK.due("step(4, 10)", x.step(4, 10), 0);
        CHECK.due("lift(2, 1, false)", x.lift(2, 1, false), 1);
        CHECK.due("step(5, 11)", x.step(5, 11), 0);
        CHECK.due("count(4)", x.count(4), 1);
        long before = x.digest();
        int[][] bad = {{-1, 0}, {3, 0}, {0, -1}, {0, 2}, {3, 2}};
        for (int[] place : bad) {
            CHECK.due("lift(bad)", x.lift(place[0], place[1], true), InsidePlaces.BAD);
        }
        for (int wild : WILD) {
            CHECK.due("lift(wild)", x.lift(wild, 0, true), InsidePlaces.BAD);
            CHECK.due("lift(wild)", x.lift(0, wild, true), InsidePlaces.BAD);
        }
        CHECK.same("lift(bad)", x, before, 0);
        x.building(1, 2, 2);
        CHECK.due("lift(1, 1, true) on one FLOOR", x.lift(1, 1, true), 1);
        CHECK.due("count(4) on one FLOOR", x.count(4), 1);
        CHECK.due("step(3, 3) on one FLOOR", x.step(3, 3), 1);
    }

    private static void stays() {
        Place x = new Place();
        int was = 1;
        for (int likely = 0; likely <= 9; likely++) {
            CHECK.due("stay(" + likely + ")", x.stay(likely), was);
            CHECK.due("step(6, 6)", x.step(6, 6), likely);
            CHECK.due("step(6, 7)", x.step(6, 7), 2);
            CHECK.due("count(7)", x.count(7), likely);
            was = likely;
        }
        long before = x.digest();
        int[] bad = {-1, 10, Integer.MIN_VALUE, Integer.MAX_VALUE};
        for (int likely : bad) {
            CHECK.due("stay(" + likely + ")", x.stay(likely), InsidePlaces.BAD);
            CHECK.same("stay(" + likely + ")", x, before, 0);
        }
        CHECK.due("stay(9)", x.stay(9), 9);
    }

    private static void stepsByGeometry() {
        int[][] sizes = {{1, 4, 4}, {3, 4, 6}, {2, 6, 6}, {3, 1, 1}, {3, 1, 6}, {3, 6, 1}};
        for (int[] size : sizes) {
            for (int a = 0; a < size[0] * size[1] * size[2]; a++) {
                stepsFrom(a, size);
            }
            Place x = new Place();
            x.building(size[0], size[1], size[2]);
            for (int wild : WILD) {
                CHECK.due("step(wild)", x.step(wild, 0), InsidePlaces.BAD);
                CHECK.due("step(wild)", x.step(0, wild), InsidePlaces.BAD);
            }
        }
    }

    private static void stepsFrom(int a, int[] size) {
        Place x = new Place();
        int w = size[1];
        int floor = w * size[2];
        int cells = x.building(size[0], w, size[2]);
        x.lift(w - 1, 0, true);
        x.stay(5);
        for (int b = 0; b < cells; b++) {
            boolean lifted = a % floor == w - 1 && Math.abs(a - b) == floor;
            int likely = a == b ? 5 : isBeside(a, b, cells, w, size[2]) ? 2 : lifted ? 1 : 0;
            CHECK.due("step(" + a + ", " + b + ")", x.step(a, b), likely);
        }
        CHECK.due("step(" + a + ", cells)", x.step(a, cells), InsidePlaces.BAD);
        CHECK.due("step(cells, " + a + ")", x.step(cells, a), InsidePlaces.BAD);
        CHECK.due("step(" + a + ", -1)", x.step(a, -1), InsidePlaces.BAD);
        CHECK.due("step(-1, " + a + ")", x.step(-1, a), InsidePlaces.BAD);
    }

    private static void farness() {
        Place x = new Place();
        CHECK.due("far(0, 15)", x.far(0, 15), 6);
        CHECK.due("far(15, 0)", x.far(15, 0), 6);
        CHECK.due("far(9, 9)", x.far(9, 9), 0);
        x.stay(0);
        CHECK.due("far(9, 9) without STAY", x.far(9, 9), 0);
        CHECK.due("far(-1, 0)", x.far(-1, 0), InsidePlaces.BAD);
        CHECK.due("far(16, 0)", x.far(16, 0), InsidePlaces.BAD);
        CHECK.due("far(0, -1)", x.far(0, -1), InsidePlaces.BAD);
        CHECK.due("far(0, 16)", x.far(0, 16), InsidePlaces.BAD);
        x.building(2, 6, 6);
        CHECK.due("far(0, 36) without a LIFT", x.far(0, 36), InsidePlaces.NONE);
        x.lift(5, 5, true);
        CHECK.due("far(0, 36)", x.far(0, 36), 21);
        CHECK.due("far(0, 71)", x.far(0, 71), 11);
        CHECK.due("far(71, 0) down the LIFT", x.far(71, 0), 11);
        CHECK.due("far(36, 0) down the LIFT", x.far(36, 0), 21);
        x.lift(3, 0, true);
        CHECK.due("far(0, 36) by the nearer LIFT", x.far(0, 36), 7);
        x.building(1, 6, 6);
        // A winding way through all 36 CELLS: the longest that WALLS can make here.
        for (int y = 0; y < 5; y++) {
            for (int at = 0; at < 6; at++) {
                if (at != (y % 2 == 0 ? 5 : 0)) {
                    x.wall(6 * y + at, 6 * y + 6 + at, true);
                }
            }
        }
        CHECK.due("count(3) of the winding way", x.count(3), 25);
        CHECK.due("far(0, 30) of the winding way", x.far(0, 30), 35);
        CHECK.due("far(0, 35) of the winding way", x.far(0, 35), 30);
        x.wall(29, 35, true);
        CHECK.due("far(0, 35) walled off", x.far(0, 35), InsidePlaces.NONE);
        CHECK.due("far(35, 0) walled off", x.far(35, 0), InsidePlaces.NONE);
        CHECK.due("far(35, 30) walled off", x.far(35, 30), 5);
    }
}
