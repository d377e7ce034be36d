/** Promises 20 to 23: best, way, learn, moved; THE BEST WAY is found again by trying every way. */
final class WaysTest {
    private static final Check CHECK = new Check("WaysTest");
    private static final int MISSING = -2;
    /** LIKELY of each STEP; THE WEIGHT of each ROW's SENDERS in each CELL, 0 of those that are MISSING or DEAD. */
    private static int[][] steps;
    private static int[][][] weights;
    private static int[] bestWay;
    private static int bestScore;

    public static void main(String[] args) {
        byHand();
        tiesAreLexicographic();
        triedEveryWay();
        waysThatAreTold();
        noWay();
        learning();
        deadAndMissing();
        movedOnes();
        movedByHalf();
        refusals();
        CHECK.end();
    }

    private static void byHand() {
        Place x = new Place();
        x.building(1, 3, 1);
        Check.fill(x, 0, new int[] {1}, new int[] {2}, new int[] {3});
        for (int i = 0; i < 5; i++) {
            x.survey(0, 0, 2);
            x.survey(0, 2, 0);
        }
        // Heard 6 + 1 + 6, STEPS 2 + 2, by way of CELL 1.
        CHECK.due("best(0)", x.best(0), 17);
        CHECK.due("way(0)", x.way(0), 2);
        CHECK.due("way(1)", x.way(1), 1);
        CHECK.due("way(2)", x.way(2), 0);
        CHECK.due("way(3)", x.way(3), InsidePlaces.BAD);
        CHECK.due("way(-1)", x.way(-1), InsidePlaces.BAD);
        CHECK.due("way(min)", x.way(Integer.MIN_VALUE), InsidePlaces.BAD);
        CHECK.due("way(max)", x.way(Integer.MAX_VALUE), InsidePlaces.BAD);
        x.wall(0, 1, true);
        CHECK.due("best(0) behind a WALL", x.best(0), 6 + 1 + 1 + 2 + 2);
        CHECK.due("way(2) behind a WALL", x.way(2), 2);
        x.stay(9);
        CHECK.due("best(0) that stays", x.best(0), 6 + 1 + 1 + 9 + 9);
        CHECK.due("way(1) that stays, as in CELL 2 it is alike", x.way(1), 0);
    }

    private static void tiesAreLexicographic() {
        Place x = new Place();
        x.building(1, 3, 1);
        Check.fill(x, 0, new int[] {-2}, new int[] {-2}, new int[] {-2}, new int[] {-2});
        CHECK.due("best(0) of MISSING ones", x.best(0), 6);
        int[] due = {0, 1, 0, 1};
        for (int i = 0; i < 4; i++) {
            CHECK.due("way(" + i + ")", x.way(i), due[i]);
        }
        x.stay(2);
        CHECK.due("best(0) of MISSING ones, STAY 2", x.best(0), 6);
        for (int i = 0; i < 4; i++) {
            CHECK.due("way(" + i + ")", x.way(i), 0);
        }
        // Only the last ROW tells; the way is least from the first ROW on.
        Check.fill(x, 1, new int[] {-2}, new int[] {-2}, new int[] {4});
        x.survey(1, 2, 2);
        CHECK.due("best(1)", x.best(1), 6);
        int[] late = {0, 1, 2};
        for (int i = 0; i < 3; i++) {
            CHECK.due("way(" + i + ")", x.way(i), late[i]);
        }
    }

    private static void triedEveryWay() {
        long seed = 12345;
        for (int round = 0; round < 400; round++) {
            Place x = new Place();
            int[] at = new int[80];
            for (int i = 0; i < at.length; i++) {
                seed = seed * 6364136223846793005L + 1442695040888963407L;
                at[i] = (int) (seed >>> 33);
            }
            int floors = 1 + at[0] % 3;
            int w = 1 + at[1] % 3;
            int h = floors == 1 ? 1 + at[2] % 3 : 1;
            int cells = x.building(floors, w, h);
            x.stay(at[3] % 5);
            x.lift(0, 0, at[4] % 2 == 0);
            x.wall(0, 1, at[5] % 3 == 0);
            x.wall(1, 2, at[6] % 3 == 0);
            x.dead(at[7] % 8, at[8] % 2 == 0);
            int[][] rows = new int[1 + at[9] % 4][8];
            for (int i = 0; i < rows.length * 8; i++) {
                rows[i / 8][i % 8] = at[10 + i] % 4 - 2;
            }
            Check.fill(x, 0, rows);
            for (int i = 0; i < 12; i++) {
                x.survey(0, at[50 + i] % rows.length, at[63 + i] % cells);
            }
            ask(x, cells, rows);
            tryEveryWay(-1);
            long before = x.digest();
            CHECK.due("best(0) of round " + round, x.best(0), bestWay == null ? InsidePlaces.NOT : bestScore);
            for (int i = 0; i < rows.length; i++) {
                int due = bestWay == null ? InsidePlaces.BAD : bestWay[i];
                CHECK.due("way(" + i + ") of round " + round, x.way(i), due);
            }
            CHECK.due("moved(0) of round " + round, x.moved(0), movedBits());
            CHECK.same("best(0), moved(0)", x, before, 0);
        }
    }

    /** What ways are reckoned by is asked but once, as an object is used for at most 512 calls. */
    private static void ask(Place x, int cells, int[][] rows) {
        int dead = x.count(9);
        steps = new int[cells][cells];
        for (int from = 0; from < cells; from++) {
            for (int to = 0; to < cells; to++) {
                steps[from][to] = x.step(from, to);
            }
        }
        weights = new int[rows.length][8][cells];
        for (int row = 0; row < rows.length; row++) {
            for (int sender = 0; sender < 8; sender++) {
                boolean counts = rows[row][sender] != MISSING && (dead >> sender & 1) == 0;
                for (int cell = 0; cell < cells && counts; cell++) {
                    weights[row][sender][cell] = x.weight(sender, cell, rows[row][sender]);
                }
            }
        }
    }

    /** Every way in the order of its CELLS: the first with the greatest SCORE is THE BEST WAY. */
    private static void tryEveryWay(int without) {
        bestWay = null;
        bestScore = -1;
        goOn(without, new int[weights.length], 0, 0);
    }

    private static void goOn(int without, int[] way, int row, int score) {
        if (row == way.length) {
            if (score > bestScore) {
                bestScore = score;
                bestWay = way.clone();
            }
            return;
        }
        for (int cell = 0; cell < steps.length; cell++) {
            int likely = row == 0 ? 0 : steps[way[row - 1]][cell];
            if (row == 0 || likely > 0) {
                way[row] = cell;
                goOn(without, way, row + 1, score + likely + heard(row, cell, without));
            }
        }
    }

    private static int heard(int row, int cell, int without) {
        int sum = 0;
        for (int sender = 0; sender < 8; sender++) {
            sum += sender == without ? 0 : weights[row][sender][cell];
        }
        return sum;
    }

    private static int movedBits() {
        int bits = 0;
        for (int sender = 0; sender < 8; sender++) {
            tryEveryWay(sender);
            if (bestWay == null) {
                return InsidePlaces.NOT;
            }
            int heard = 0;
            int unknown = 0;
            for (int row = 0; row < weights.length; row++) {
                int weight = weights[row][sender][bestWay[row]];
                heard += weight > 0 ? 1 : 0;
                unknown += weight == 1 ? 1 : 0;
            }
            if (unknown * 2 > heard) {
                bits |= 1 << sender;
            }
        }
        return bits;
    }

    private static void waysThatAreTold() {
        Place x = new Place();
        CHECK.due("way(0) before any", x.way(0), InsidePlaces.BAD);
        Check.fill(x, 0, new int[] {1}, new int[] {2});
        Check.fill(x, 1, new int[] {3});
        x.sheet(2, 0, 7);
        CHECK.due("moved(0)", x.moved(0), 1);
        CHECK.due("way(0) after moved()", x.way(0), InsidePlaces.BAD);
        x.survey(1, 0, 9);
        CHECK.due("best(1)", x.best(1), 2);
        CHECK.due("way(0)", x.way(0), 9);
        CHECK.due("way(1)", x.way(1), InsidePlaces.BAD);
        CHECK.due("moved(0)", x.moved(0), 1);
        CHECK.due("best(2)", x.best(2), InsidePlaces.NOT);
        CHECK.due("best(3)", x.best(3), -11);
        CHECK.due("best(4)", x.best(4), InsidePlaces.BAD);
        CHECK.due("learn(2)", x.learn(2), InsidePlaces.NOT);
        CHECK.due("way(0) after refusals", x.way(0), 9);
        CHECK.due("way(1) after refusals", x.way(1), InsidePlaces.BAD);
        CHECK.due("learn(0)", x.learn(0), 2);
        CHECK.due("way(0) after learn()", x.way(0), 0);
        CHECK.due("way(1) after learn()", x.way(1), 1);
        x.lose(0);
        CHECK.due("way(1) after lose()", x.way(1), 1);
        CHECK.due("way(2) after lose()", x.way(2), InsidePlaces.BAD);
    }

    private static void noWay() {
        Place x = new Place();
        x.building(2, 2, 1);
        x.stay(0);
        x.wall(0, 1, true);
        x.wall(2, 3, true);
        Check.fill(x, 0, new int[] {1}, new int[] {1});
        Check.fill(x, 1, new int[] {1});
        long before = x.digest();
        CHECK.due("best(0) without STEPS", x.best(0), InsidePlaces.NOT);
        CHECK.due("learn(0) without STEPS", x.learn(0), InsidePlaces.NOT);
        CHECK.due("moved(0) without STEPS", x.moved(0), InsidePlaces.NOT);
        CHECK.same("NOT", x, before, 0);
        CHECK.due("way(0)", x.way(0), InsidePlaces.BAD);
        CHECK.due("best(1) of one ROW", x.best(1), 1);
        for (int sender = 0; sender < 8; sender++) {
            x.dead(sender, true);
        }
        CHECK.due("moved(0) without STEPS or SENDERS", x.moved(0), InsidePlaces.NOT);
        CHECK.due("moved(1) without SENDERS", x.moved(1), 0);
        x.lift(1, 0, true);
        CHECK.due("best(0) by the LIFT", x.best(0), 1);
        CHECK.due("way(0) by the LIFT", x.way(0), 1);
        CHECK.due("way(1) by the LIFT", x.way(1), 3);
    }

    private static void learning() {
        Place x = new Place();
        x.building(1, 3, 1);
        Check.fill(x, 0, new int[] {1, -1}, new int[] {2, 11}, new int[] {3, 9});
        x.dead(1, true);
        for (int i = 0; i < 5; i++) {
            x.survey(0, 0, 2);
        }
        CHECK.due("learn(0)", x.learn(0), 3);
        int[] due = {2, 1, 0};
        for (int i = 0; i < 3; i++) {
            CHECK.due("way(" + i + ")", x.way(i), i == 2 ? 0 : due[i]);
        }
        CHECK.due("weight(0, 2, 1)", x.weight(0, 2, 1), 7);
        CHECK.due("weight(0, 1, 2)", x.weight(0, 1, 2), 2);
        CHECK.due("weight(0, 0, 3)", x.weight(0, 0, 3), 2);
        CHECK.due("weight(1, 2, -1) of a DEAD one", x.weight(1, 2, -1), 7);
        CHECK.due("weight(1, 0, 9) of a DEAD one", x.weight(1, 0, 9), 2);
        int[][] rows = new int[30][1];
        Check.fill(x, 1, rows);
        CHECK.due("learn(1) of 30 ROWS", x.learn(1), 30);
        CHECK.due("way(29)", x.way(29), 1);
    }

    private static void deadAndMissing() {
        Place x = new Place();
        x.building(1, 2, 1);
        Check.fill(x, 0, new int[] {5, 5, -2, 300});
        x.survey(0, 0, 1);
        CHECK.due("best(0)", x.best(0), 4);
        CHECK.due("way(0)", x.way(0), 1);
        x.dead(0, true);
        CHECK.due("best(0) with one DEAD", x.best(0), 2);
        x.dead(1, true);
        CHECK.due("best(0) with all DEAD", x.best(0), 0);
        CHECK.due("way(0) with all DEAD", x.way(0), 0);
    }

    private static void movedOnes() {
        Place x = new Place();
        x.building(1, 4, 1);
        Check.fill(x, 0, new int[] {1, 5, 5}, new int[] {2, 6, 6}, new int[] {3, 7, 7}, new int[] {4, 8, 8});
        for (int i = 0; i < 4; i++) {
            x.survey(0, i, i);
        }
        CHECK.due("moved(0) where all is as it was", x.moved(0), 0);
        Check.fill(x, 1, new int[] {4, 5, 5}, new int[] {3, 6, 6}, new int[] {2, 7, 7}, new int[] {1, 8, 8});
        CHECK.due("best(0)", x.best(0), 30);
        CHECK.due("moved(1)", x.moved(1), 1);
        CHECK.due("way(3) stays", x.way(3), 3);
        x.dead(0, true);
        CHECK.due("moved(1) of a DEAD one", x.moved(1), 0);
        x.dead(0, false);
        // By SENDER 0 alone the way would fit; without it, it has none and stays in the least CELLS.
        x.dead(1, true);
        x.dead(2, true);
        CHECK.due("moved(1) of one alone", x.moved(1), 1);
    }

    private static void movedByHalf() {
        Place x = new Place();
        x.building(1, 1, 1);
        Check.fill(x, 0, new int[] {1}, new int[] {2}, new int[] {-2}, new int[] {-2});
        x.survey(0, 0, 0);
        CHECK.due("moved(0): one of two", x.moved(0), 0);
        Check.fill(x, 1, new int[] {1}, new int[] {2}, new int[] {3}, new int[] {-2});
        CHECK.due("moved(1): two of three", x.moved(1), 1);
        Check.fill(x, 2, new int[] {1, -2}, new int[] {-2, -1});
        CHECK.due("moved(2): NOTHING heard where none was", x.moved(2), 2);
        Check.fill(x, 3, new int[] {-2}, new int[] {10});
        CHECK.due("moved(3): MISSING in all ROWS", x.moved(3), 0);
        Check.fill(x, 3, new int[] {-2, -2, -2, -2, -2, -2, -2, 0});
        CHECK.due("moved(3): the last", x.moved(3), 128);
    }

    private static void refusals() {
        Place x = new Place();
        x.sheet(0, 0, 0);
        x.sheet(1, 2, 7);
        long before = x.digest();
        int[] bad = {-1, 4, Integer.MIN_VALUE, Integer.MAX_VALUE};
        for (int s : bad) {
            CHECK.due("best(" + s + ")", x.best(s), InsidePlaces.BAD);
            CHECK.due("learn(" + s + ")", x.learn(s), InsidePlaces.BAD);
            CHECK.due("moved(" + s + ")", x.moved(s), InsidePlaces.BAD);
        }
        for (int s = 0; s < 2; s++) {
            CHECK.due("best of no ROWS", x.best(s), InsidePlaces.NOT);
            CHECK.due("learn of no ROWS", x.learn(s), InsidePlaces.NOT);
            CHECK.due("moved of no ROWS", x.moved(s), InsidePlaces.NOT);
        }
        CHECK.same("BAD, NOT", x, before, 0);
        CHECK.due("best(2)", x.best(2), -11);
        CHECK.same("best NULL", x, before, 1);
        x.lay(0, 0, 0, 0);
        CHECK.due("learn(2)", x.learn(2), -11);
        CHECK.same("learn NULL", x, before, 1);
        x.lay(0, 0, 0, 0);
        CHECK.due("moved(2)", x.moved(2), -11);
        CHECK.same("moved NULL", x, before, 1);
    }
}
