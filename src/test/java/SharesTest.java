import java.math.BigInteger;
import java.util.Arrays;

/** Promises 12 to 19: alike, known, lead, hear, share, likeliest, within, sure. */
final class SharesTest {
    private static final Check CHECK = new Check("SharesTest");
    private static final BigInteger MILLION = BigInteger.valueOf(1000000);

    public static void main(String[] args) {
        alikeInAllSizes();
        knownCells();
        leadByHand();
        leadWithoutSteps();
        leadAsTold();
        leadRefusals();
        hearByHand();
        hearAsTold();
        hearLost();
        hearByTheLeastWeight();
        hearRefusals();
        shareAndLikeliest();
        areas();
        sureness();
        CHECK.end();
    }

    private static void alikeInAllSizes() {
        for (int floors = 1; floors <= 3; floors++) {
            for (int w = 1; w <= 6; w++) {
                for (int h = 1; h <= 6 && floors * w * h <= 72; h++) {
                    Place x = new Place();
                    int cells = x.building(floors, w, h);
                    x.known(cells - 1);
                    CHECK.due("alike() of " + cells, x.alike(), 1000000 / cells);
                    for (int cell = 0; cell < cells; cell++) {
                        int more = cell < 1000000 % cells ? 1 : 0;
                        CHECK.due("share(" + cell + ") of " + cells, x.share(cell), 1000000 / cells + more);
                    }
                }
            }
        }
    }

    private static void knownCells() {
        Place x = new Place();
        x.building(2, 3, 2);
        for (int known = 0; known < 12; known++) {
            CHECK.due("known(" + known + ")", x.known(known), 1);
            for (int cell = 0; cell < 12; cell++) {
                CHECK.due("share(" + cell + ")", x.share(cell), cell == known ? 1000000 : 0);
            }
        }
        long before = x.digest();
        int[] bad = {-1, 12, Integer.MIN_VALUE, Integer.MAX_VALUE};
        for (int cell : bad) {
            CHECK.due("known(" + cell + ")", x.known(cell), InsidePlaces.BAD);
            CHECK.same("known(" + cell + ")", x, before, 0);
        }
    }

    private static void leadByHand() {
        Place x = new Place();
        x.building(1, 3, 1);
        x.known(1);
        CHECK.due("lead(1)", x.lead(1), 3);
        CHECK.due("share(0)", x.share(0), 400000);
        CHECK.due("share(1)", x.share(1), 200000);
        CHECK.due("share(2)", x.share(2), 400000);
        CHECK.due("lead(1)", x.lead(1), 3);
        // Of like rests in CELLS 0 and 2 the one that lacks goes to the lesser.
        CHECK.due("share(0)", x.share(0), 213334);
        CHECK.due("share(1)", x.share(1), 573333);
        CHECK.due("share(2)", x.share(2), 213333);
    }

    private static void leadWithoutSteps() {
        Place x = new Place();
        x.building(1, 2, 2);
        x.stay(0);
        x.wall(0, 1, true);
        x.wall(0, 2, true);
        x.known(0);
        CHECK.due("lead(20) of a CELL without STEPS", x.lead(20), 1);
        CHECK.due("share(0)", x.share(0), 1000000);
        x.alike();
        CHECK.due("lead(1)", x.lead(1), 4);
        CHECK.due("share(0) stays", x.share(0), 250000);
        CHECK.due("share(3) has both", x.share(3), 500000);
        CHECK.due("share(1) has half of one", x.share(1), 125000);
        x.known(3);
        CHECK.due("lead(1)", x.lead(1), 2);
        CHECK.due("share(3)", x.share(3), 0);
        CHECK.due("share(1)", x.share(1), 500000);
        CHECK.due("share(2)", x.share(2), 500000);
    }

    private static void leadAsTold() {
        int[][] sizes = {{1, 4, 4}, {3, 4, 6}, {2, 6, 6}, {3, 1, 1}, {2, 3, 5}, {1, 6, 1}};
        for (int[] size : sizes) {
            for (int stay = 0; stay <= 9; stay += 3) {
                ledFromTheMiddle(size, stay);
            }
        }
    }

    private static void ledFromTheMiddle(int[] size, int stay) {
        int cells = size[0] * size[1] * size[2];
        int[][] steps = stepsOf(size, stay);
        Place x = walled(size, stay);
        x.known(cells / 2);
        int[] due = new int[cells];
        due[cells / 2] = 1000000;
        for (int n = 1; n <= 20; n += 6) {
            for (int i = 0; i < n; i++) {
                due = ledOnce(steps, due);
            }
            CHECK.due("lead(" + n + ")", x.lead(n), shared(due));
            compare("lead(" + n + ")", x, due);
        }
    }

    private static Place walled(int[] size, int stay) {
        Place x = new Place();
        int cells = x.building(size[0], size[1], size[2]);
        x.stay(stay);
        x.lift(0, 0, true);
        x.lift(size[1] - 1, size[2] - 1, true);
        for (int cell = 0; cell + 1 < cells; cell += 3) {
            x.wall(cell, cell + 1, true);
        }
        return x;
    }

    /** The LIKELY numbers of all STEPS: a new object for each CELL, as one is used for at most 512 calls. */
    private static int[][] stepsOf(int[] size, int stay) {
        int cells = size[0] * size[1] * size[2];
        int[][] steps = new int[cells][cells];
        for (int from = 0; from < cells; from++) {
            Place x = walled(size, stay);
            for (int to = 0; to < cells; to++) {
                steps[from][to] = x.step(from, to);
            }
        }
        return steps;
    }

    private static int[] sharesOf(Place x, int cells) {
        int[] shares = new int[cells];
        for (int cell = 0; cell < cells; cell++) {
            shares[cell] = x.share(cell);
        }
        return shares;
    }

    private static int shared(int[] shares) {
        int number = 0;
        for (int share : shares) {
            number += share > 0 ? 1 : 0;
        }
        return number;
    }

    private static void compare(String call, Place x, int[] due) {
        for (int cell = 0; cell < due.length; cell++) {
            CHECK.due(call + " share(" + cell + ")", x.share(cell), due[cell]);
        }
    }

    private static int[] ledOnce(int[][] steps, int[] shares) {
        int cells = shares.length;
        BigInteger[] weights = new BigInteger[cells];
        Arrays.fill(weights, BigInteger.ZERO);
        for (int from = 0; from < cells; from++) {
            BigInteger all = BigInteger.valueOf(shares[from]).multiply(BigInteger.valueOf(1000));
            int sum = 0;
            for (int to = 0; to < cells; to++) {
                sum += steps[from][to];
            }
            for (int to = 0; to < cells; to++) {
                if (sum == 0) {
                    weights[to] = weights[to].add(to == from ? all : BigInteger.ZERO);
                } else {
                    BigInteger likely = BigInteger.valueOf(steps[from][to]);
                    weights[to] = weights[to].add(all.multiply(likely).divide(BigInteger.valueOf(sum)));
                }
            }
        }
        return madeWhole(weights);
    }

    private static int[] madeWhole(BigInteger[] weights) {
        BigInteger sum = BigInteger.ZERO;
        for (BigInteger weight : weights) {
            sum = sum.add(weight);
        }
        int[] shares = new int[weights.length];
        BigInteger[] rests = new BigInteger[weights.length];
        int lacking = 1000000;
        for (int cell = 0; cell < weights.length; cell++) {
            BigInteger[] parts = weights[cell].multiply(MILLION).divideAndRemainder(sum);
            shares[cell] = parts[0].intValueExact();
            rests[cell] = parts[1];
            lacking -= shares[cell];
        }
        for (int cell = 0; cell < weights.length; cell++) {
            int ahead = 0;
            for (int other = 0; other < weights.length; other++) {
                int order = rests[other].compareTo(rests[cell]);
                ahead += order > 0 || order == 0 && other < cell ? 1 : 0;
            }
            shares[cell] += ahead < lacking ? 1 : 0;
        }
        return shares;
    }

    private static void leadRefusals() {
        Place x = new Place();
        x.known(4);
        long before = x.digest();
        int[] bad = {0, -1, 21, Integer.MIN_VALUE, Integer.MAX_VALUE};
        for (int n : bad) {
            CHECK.due("lead(" + n + ")", x.lead(n), InsidePlaces.BAD);
            CHECK.same("lead(" + n + ")", x, before, 0);
        }
        CHECK.due("lead(20)", x.lead(20), 16);
    }

    private static void hearByHand() {
        Place x = new Place();
        x.building(1, 2, 1);
        Check.fill(x, 0, new int[] {5}, new int[] {7, -1});
        x.survey(0, 0, 0);
        x.survey(0, 0, 0);
        // The numbers are 1000 and 333 (one third of 1000, cut).
        CHECK.due("hear(0, 0, 0)", x.hear(0, 0, 0), 2);
        CHECK.due("share(0)", x.share(0), 750188);
        CHECK.due("share(1)", x.share(1), 249812);
        x.alike();
        CHECK.due("hear(0, 1, 0) of what is alike", x.hear(0, 1, 0), 2);
        CHECK.due("share(0)", x.share(0), 500000);
        CHECK.due("hear(0, 1, 2)", x.hear(0, 1, 2), 2);
        CHECK.due("share(0) by an OFFSET", x.share(0), 750188);
        x.dead(0, true);
        x.alike();
        CHECK.due("hear(0, 0, 0) of a DEAD one", x.hear(0, 0, 0), 2);
        CHECK.due("share(0) of a DEAD one", x.share(0), 500000);
    }

    private static void hearAsTold() {
        int[][] rows = {{4, 5, 6, -1, 0, 9, 3, 2}, {4, 5, -2, -1, 9, 0, 3, 10}, {-1, -1, -1, 1, 1, 1, 8, 8},
            {9, 8, 7, 6, 5, 4, 3, 2}, {-2, -2, -2, -2, -2, -2, -2, -2}};
        for (int offset = -4; offset <= 4; offset++) {
            Place x = surveyed(rows);
            int[] due = sharesOf(x, 18);
            for (int row = 0; row < rows.length; row++) {
                due = heard(surveyed(rows), due, rows[row], offset);
                CHECK.due("hear(1, " + row + ", " + offset + ")", x.hear(1, row, offset), shared(due));
                compare("hear(1, " + row + ", " + offset + ")", x, due);
            }
        }
    }

    /** 18 CELLS with a MAP, SENDER 2 DEAD, led from CELL 4. */
    private static Place surveyed(int[][] rows) {
        Place x = new Place();
        x.building(2, 3, 3);
        Check.fill(x, 1, rows);
        for (int i = 0; i < 40; i++) {
            x.survey(1, i * i % 5, i * 7 % 5 + i % 13);
        }
        x.dead(2, true);
        x.known(4);
        x.lead(3);
        return x;
    }

    /** The SHARES after HEARING, by the WEIGHTS that an object tells. */
    private static int[] heard(Place x, int[] shares, int[] row, int offset) {
        long[] numbers = new long[shares.length];
        Arrays.fill(numbers, 1000);
        for (int sender = 0; sender < 8; sender++) {
            if (sender != 2 && row[sender] >= -1 && row[sender] <= 9) {
                int by = row[sender] < 0 ? row[sender] : Math.max(0, Math.min(9, row[sender] - offset));
                int[] here = new int[shares.length];
                int greatest = 0;
                for (int cell = 0; cell < shares.length; cell++) {
                    here[cell] = x.weight(sender, cell, by);
                    greatest = Math.max(greatest, here[cell]);
                }
                for (int cell = 0; cell < shares.length; cell++) {
                    numbers[cell] = numbers[cell] * here[cell] / greatest;
                }
            }
        }
        BigInteger[] weights = new BigInteger[shares.length];
        for (int cell = 0; cell < shares.length; cell++) {
            weights[cell] = BigInteger.valueOf(numbers[cell]).multiply(BigInteger.valueOf(shares[cell]));
        }
        return madeWhole(weights);
    }

    private static void hearLost() {
        Place x = new Place();
        x.building(1, 3, 1);
        Check.fill(x, 0, new int[] {1, 1, 1, 1});
        for (int i = 0; i < 9; i++) {
            x.survey(0, 0, 1);
        }
        x.known(0);
        // The number of CELL 0: 1000, 100, 10, 1, 0; but with a SENDER less it is 1.
        long before = x.digest();
        CHECK.due("hear(0, 0, 0)", x.hear(0, 0, 0), InsidePlaces.NOT);
        CHECK.same("hear(0, 0, 0)", x, before, 0);
        x.dead(3, true);
        CHECK.due("hear(0, 0, 0) with one DEAD", x.hear(0, 0, 0), 1);
        CHECK.due("share(0)", x.share(0), 1000000);
        x.dead(3, false);
        x.alike();
        CHECK.due("hear(0, 0, 0) from anywhere", x.hear(0, 0, 0), 1);
        CHECK.due("share(1)", x.share(1), 1000000);
    }

    /** All weights together are 1: that is not LOST yet. */
    private static void hearByTheLeastWeight() {
        Place x = new Place();
        x.building(1, 3, 1);
        int no = -2;
        Check.fill(x, 0, new int[] {1, 1, 1}, new int[] {no, no, no, 1, 1, 1, 1}, new int[] {no, no, no, no, no, no, 1});
        for (int i = 0; i < 9; i++) {
            x.survey(0, 0, 0);
            x.survey(0, 1, 1);
            x.survey(0, 2, 2);
        }
        x.stay(0);
        x.known(1);
        CHECK.due("lead(1)", x.lead(1), 2);
        CHECK.due("hear(0, 0, 0)", x.hear(0, 0, 0), 2);
        CHECK.due("share(2)", x.share(2), 999);
        CHECK.due("hear(0, 0, 0)", x.hear(0, 0, 0), 2);
        CHECK.due("share(0)", x.share(0), 999999);
        CHECK.due("share(2)", x.share(2), 1);
        CHECK.due("hear(0, 1, 0)", x.hear(0, 1, 0), 1);
        CHECK.due("share(2)", x.share(2), 1000000);
        x.known(0);
        CHECK.due("hear(0, 1, 0) of what is 0", x.hear(0, 1, 0), InsidePlaces.NOT);
    }

    private static void hearRefusals() {
        Place x = new Place();
        Check.fill(x, 0, new int[] {1});
        x.known(3);
        long before = x.digest();
        CHECK.due("hear(-1, 0, 0)", x.hear(-1, 0, 0), InsidePlaces.BAD);
        CHECK.due("hear(4, 0, 0)", x.hear(4, 0, 0), InsidePlaces.BAD);
        CHECK.due("hear(1, 0, -5)", x.hear(1, 0, -5), InsidePlaces.BAD);
        CHECK.due("hear(0, 9, 5)", x.hear(0, 9, 5), InsidePlaces.BAD);
        CHECK.due("hear(0, 0, min)", x.hear(0, 0, Integer.MIN_VALUE), InsidePlaces.BAD);
        CHECK.same("hear BAD", x, before, 0);
        CHECK.due("hear(1, -1, 4)", x.hear(1, -1, 4), -11);
        CHECK.same("hear NULL", x, before, 1);
        CHECK.due("hear(0, 1, 0)", x.hear(0, 1, 0), -12);
        CHECK.due("hear(0, -1, 0)", x.hear(0, -1, 0), -12);
        CHECK.same("hear INDEX", x, before, 2);
        CHECK.due("hear(0, 0, -4)", x.hear(0, 0, -4), 1);
    }

    private static void shareAndLikeliest() {
        Place x = new Place();
        x.building(1, 3, 2);
        int[] bad = {-1, 6, Integer.MIN_VALUE, Integer.MAX_VALUE};
        for (int cell : bad) {
            CHECK.due("share(" + cell + ")", x.share(cell), InsidePlaces.BAD);
        }
        CHECK.due("likeliest() of shares alike", x.likeliest(), 0);
        x.known(5);
        CHECK.due("likeliest() of a known CELL", x.likeliest(), 5);
        for (int cell = 0; cell < 6; cell++) {
            x.known(cell);
            CHECK.due("likeliest() of " + cell + " alone", x.likeliest(), cell);
        }
        x.stay(0);
        x.lead(1);
        CHECK.due("likeliest() of 2 and 4", x.likeliest(), 2);
        x.known(3);
        x.lead(1);
        CHECK.due("likeliest() of 0 and 4", x.likeliest(), 0);
    }

    private static void areas() {
        for (int floor = -1; floor <= 2; floor++) {
            for (int x0 = -1; x0 <= 3; x0++) {
                areasFrom(floor, x0);
            }
        }
        Place x = new Place();
        int[] wild = {Integer.MIN_VALUE, Integer.MAX_VALUE, 1 << 30};
        for (int w : wild) {
            CHECK.due("within(wild)", x.within(w, 0, 0, 0, 0), InsidePlaces.BAD);
            CHECK.due("within(wild)", x.within(0, w, w, 0, 0), InsidePlaces.BAD);
            CHECK.due("within(wild)", x.within(0, 0, w, 0, 0), InsidePlaces.BAD);
            CHECK.due("within(wild)", x.within(0, 0, 0, w, w), InsidePlaces.BAD);
            CHECK.due("within(wild)", x.within(0, 0, 0, 0, w), InsidePlaces.BAD);
        }
    }

    private static void areasFrom(int floor, int x0) {
        Place x = new Place();
        x.building(2, 3, 4);
        x.known(16);
        x.lead(2);
        int[] shares = sharesOf(x, 24);
        for (int x1 = -1; x1 <= 3; x1++) {
            for (int y0 = -1; y0 <= 4; y0++) {
                for (int y1 = -1; y1 <= 4; y1++) {
                    String call = "within(" + floor + ", " + x0 + ", " + x1 + ", " + y0 + ", " + y1 + ")";
                    CHECK.due(call, x.within(floor, x0, x1, y0, y1), together(shares, floor, x0, x1, y0, y1));
                }
            }
        }
    }

    private static int together(int[] shares, int floor, int x0, int x1, int y0, int y1) {
        if (floor < 0 || floor > 1 || x0 < 0 || x1 > 2 || x0 > x1 || y0 < 0 || y1 > 3 || y0 > y1) {
            return InsidePlaces.BAD;
        }
        int sum = 0;
        for (int cell = 0; cell < 24; cell++) {
            int atX = cell % 3;
            int atY = cell / 3 % 4;
            if (cell / 12 == floor && atX >= x0 && atX <= x1 && atY >= y0 && atY <= y1) {
                sum += shares[cell];
            }
        }
        return sum;
    }

    private static void sureness() {
        Place x = new Place();
        x.building(1, 3, 1);
        x.known(1);
        x.lead(2);
        // SHARES 213334, 573333, 213333.
        int[][] due = {{0, 0}, {1, 1}, {573333, 1}, {573334, 2}, {786667, 2}, {786668, 3}, {1000000, 3}};
        for (int[] row : due) {
            CHECK.due("sure(" + row[0] + ")", x.sure(row[0]), row[1]);
        }
        long before = x.digest();
        int[] bad = {-1, 1000001, Integer.MIN_VALUE, Integer.MAX_VALUE};
        for (int most : bad) {
            CHECK.due("sure(" + most + ")", x.sure(most), InsidePlaces.BAD);
        }
        CHECK.same("sure", x, before, 0);
        x.building(3, 4, 6);
        for (int cells = 1; cells <= 72; cells++) {
            int sum = 13889 * Math.min(cells, 64) + 13888 * Math.max(0, cells - 64);
            CHECK.due("sure(" + sum + ")", x.sure(sum), cells);
            CHECK.due("sure(" + (sum - 13888) + ")", x.sure(sum - 13888), cells <= 64 ? cells : cells - 1);
        }
        x.known(71);
        CHECK.due("sure(1000000)", x.sure(1000000), 1);
        CHECK.due("sure(0)", x.sure(0), 0);
    }
}
