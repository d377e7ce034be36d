/** Promises 8 to 11: dead, survey, weight, offset. */
final class SendersTest {
    private static final Check CHECK = new Check("SendersTest");

    public static void main(String[] args) {
        deadOnes();
        surveys();
        surveysOfForms();
        countsEndAt255();
        surveyRefusals();
        weightRefusals();
        offsets();
        offsetsOfLikeSums();
        offsetRefusals();
        CHECK.end();
    }

    private static void deadOnes() {
        Place x = new Place();
        CHECK.due("dead(0, false)", x.dead(0, false), 1);
        CHECK.due("dead(7, true)", x.dead(7, true), 1);
        CHECK.due("dead(7, true)", x.dead(7, true), 1);
        CHECK.due("dead(1, true)", x.dead(1, true), 1);
        CHECK.due("count(9)", x.count(9), 130);
        CHECK.due("dead(7, false)", x.dead(7, false), 1);
        CHECK.due("count(9)", x.count(9), 2);
        long before = x.digest();
        int[] bad = {-1, 8, 32, Integer.MIN_VALUE, Integer.MAX_VALUE};
        for (int sender : bad) {
            CHECK.due("dead(" + sender + ", true)", x.dead(sender, true), InsidePlaces.BAD);
            CHECK.due("dead(" + sender + ", false)", x.dead(sender, false), InsidePlaces.BAD);
            CHECK.same("dead(" + sender + ")", x, before, 0);
        }
    }

    private static Place surveyed() {
        Place x = new Place();
        Check.fill(x, 2, new int[] {-1, 0, 9, 10, -2, 1000, 5, -1000}, new int[] {-2, -2, -2, -2, -2, -2, -2, -2});
        x.dead(6, true);
        CHECK.due("survey(2, 0, 15)", x.survey(2, 0, 15), 4);
        return x;
    }

    private static void surveys() {
        Place x = surveyed();
        CHECK.due("weight(0, 15, -1)", x.weight(0, 15, -1), 2);
        CHECK.due("weight(1, 15, 0)", x.weight(1, 15, 0), 2);
        CHECK.due("weight(2, 15, 9)", x.weight(2, 15, 9), 2);
        CHECK.due("weight(6, 15, 5) of a DEAD one", x.weight(6, 15, 5), 2);
        CHECK.due("survey(2, 1, 15) of MISSING ones", x.survey(2, 1, 15), 0);
        CHECK.due("survey(2, 0, 15)", x.survey(2, 0, 15), 4);
        CHECK.due("survey(2, 0, 0)", x.survey(2, 0, 0), 4);
        CHECK.due("weight(2, 15, 9)", x.weight(2, 15, 9), 3);
        CHECK.due("weight(2, 0, 9)", x.weight(2, 0, 9), 2);
        CHECK.due("weight(2, 1, 9)", x.weight(2, 1, 9), 1);
        CHECK.due("survey(2, 2, 0)", x.survey(2, 2, 0), -12);
        int[] counted = {1, 1, 1, 0, 0, 0, 1, 0};
        for (int sender = 0; sender < 8; sender++) {
            CHECK.due("all counts of SENDER " + sender, countsOf(surveyed(), sender), counted[sender]);
        }
    }

    private static int countsOf(Place x, int sender) {
        int sum = 0;
        for (int cell = 0; cell < 16; cell++) {
            for (int heard = -1; heard <= 9; heard++) {
                sum += x.weight(sender, cell, heard) - 1;
            }
        }
        return sum;
    }

    private static void surveysOfForms() {
        Place x = new Place();
        for (int form = 0; form < 3; form++) {
            x.sheet(0, form, 16);
            for (int k = 0; k < 8; k++) {
                x.lay(0, form, 8 + k, form == 0 ? 256 + k : form == 1 ? 65536 + k : k);
            }
            CHECK.due("survey(0, 1, 3) of FORM " + form, x.survey(0, 1, 3), 8);
            CHECK.due("weight(7, 3, 7) of FORM " + form, x.weight(7, 3, 7), form + 2);
        }
        x.lay(0, 2, 8, 65536);
        CHECK.due("survey(0, 1, 3) of a great int", x.survey(0, 1, 3), 7);
    }

    private static void countsEndAt255() {
        Place x = new Place();
        int[][] rows = new int[30][];
        for (int r = 0; r < 30; r++) {
            rows[r] = new int[] {4};
        }
        Check.fill(x, 0, rows);
        x.building(1, 1, 1);
        for (int i = 0; i < 8; i++) {
            x.learn(0);
        }
        CHECK.due("weight(0, 0, 4) after 240", x.weight(0, 0, 4), 241);
        for (int i = 241; i <= 255; i++) {
            CHECK.due("survey " + i, x.survey(0, 0, 0), 1);
            CHECK.due("weight(0, 0, 4) after " + i, x.weight(0, 0, 4), i + 1);
        }
        CHECK.due("survey 256", x.survey(0, 0, 0), 1);
        CHECK.due("weight(0, 0, 4) after 256", x.weight(0, 0, 4), 256);
        CHECK.due("learn(0)", x.learn(0), 30);
        CHECK.due("weight(0, 0, 4) after 286", x.weight(0, 0, 4), 256);
    }

    private static void surveyRefusals() {
        Place x = new Place();
        x.sheet(0, 0, 23);
        long before = x.digest();
        CHECK.due("survey(-1, 0, 0)", x.survey(-1, 0, 0), InsidePlaces.BAD);
        CHECK.due("survey(4, 0, 0)", x.survey(4, 0, 0), InsidePlaces.BAD);
        CHECK.due("survey(1, 0, 16)", x.survey(1, 0, 16), InsidePlaces.BAD);
        CHECK.due("survey(0, 9, -1)", x.survey(0, 9, -1), InsidePlaces.BAD);
        CHECK.same("survey BAD", x, before, 0);
        CHECK.due("survey(1, 9, 0)", x.survey(1, 9, 0), -11);
        CHECK.same("survey NULL", x, before, 1);
        CHECK.due("survey(0, 2, 0)", x.survey(0, 2, 0), -12);
        CHECK.due("survey(0, -1, 0)", x.survey(0, -1, 0), -12);
        CHECK.due("survey(0, max, 0)", x.survey(0, Integer.MAX_VALUE, 0), -12);
        CHECK.due("survey(0, min, 0)", x.survey(0, Integer.MIN_VALUE, 0), -12);
        CHECK.same("survey INDEX", x, before, 2);
        CHECK.due("survey(0, 1, 0)", x.survey(0, 1, 0), 8);
    }

    private static void weightRefusals() {
        Place x = new Place();
        x.building(1, 3, 2);
        int[][] bad = {{-1, 0, 0}, {8, 0, 0}, {0, -1, 0}, {0, 6, 0}, {0, 0, -2}, {0, 0, 10},
            {Integer.MAX_VALUE, 0, 0}, {0, Integer.MIN_VALUE, 0}, {0, 0, Integer.MAX_VALUE}};
        for (int[] call : bad) {
            CHECK.due("weight(bad)", x.weight(call[0], call[1], call[2]), InsidePlaces.BAD);
        }
        CHECK.due("weight(7, 5, 9)", x.weight(7, 5, 9), 1);
        CHECK.due("weight(0, 0, -1)", x.weight(0, 0, -1), 1);
    }

    private static void offsets() {
        for (int heard = 0; heard <= 9; heard++) {
            for (int told = 0; told <= 9; told++) {
                Place x = new Place();
                Check.fill(x, 0, new int[] {told}, new int[] {heard});
                x.survey(0, 0, 6);
                CHECK.due("offset of " + heard + " to " + told, x.offset(0, 1, 6), leastOffset(heard, told));
                CHECK.due("offset elsewhere", x.offset(0, 1, 7), 0);
            }
        }
        Place x = new Place();
        Check.fill(x, 0, new int[] {3, 3, 8}, new int[] {5, 5, 5}, new int[] {-1, 5, 12});
        x.survey(0, 0, 2);
        CHECK.due("offset of the greatest sum", x.offset(0, 1, 2), 2);
        x.dead(0, true);
        x.survey(0, 0, 2);
        Check.fill(x, 1, new int[] {-2, 3, 8}, new int[] {5, -2, 5});
        CHECK.due("offset without the DEAD one", x.offset(1, 1, 2), -3);
        x.dead(0, false);
        x.survey(0, 0, 2);
        CHECK.due("offset by NOTHING and MISSING", x.offset(0, 2, 2), 2);
        x.dead(1, true);
        CHECK.due("offset of NOTHING alone", x.offset(0, 2, 2), 0);
    }

    /** The least amount, then the one below 0, by which what was heard is as told; 0: none. */
    private static int leastOffset(int heard, int told) {
        int[] offsets = {0, -1, 1, -2, 2, -3, 3, -4, 4};
        for (int offset : offsets) {
            int by = heard - offset < 0 ? 0 : heard - offset > 9 ? 9 : heard - offset;
            if (by == told) {
                return offset;
            }
        }
        return 0;
    }

    private static void offsetsOfLikeSums() {
        Place x = new Place();
        Check.fill(x, 0, new int[] {7, 3, 5}, new int[] {5, 5, -2}, new int[] {5, -2, -2}, new int[] {8, 0, -2});
        x.survey(0, 0, 0);
        CHECK.due("offset: -2 and 2 are alike", x.offset(0, 1, 0), -2);
        CHECK.due("offset: -2", x.offset(0, 2, 0), -2);
        CHECK.due("offset: 1 before -3", x.offset(0, 3, 0), 1);
    }

    private static void offsetRefusals() {
        Place x = new Place();
        x.sheet(3, 2, 8);
        long before = x.digest();
        CHECK.due("offset(-1, 0, 0)", x.offset(-1, 0, 0), -100);
        CHECK.due("offset(4, 9, 0)", x.offset(4, 9, 0), -100);
        CHECK.due("offset(3, 0, 16)", x.offset(3, 0, 16), -100);
        CHECK.due("offset(0, 0, -1)", x.offset(0, 0, -1), -100);
        CHECK.same("offset BAD", x, before, 0);
        CHECK.due("offset(0, -1, 0)", x.offset(0, -1, 0), -11);
        CHECK.same("offset NULL", x, before, 1);
        CHECK.due("offset(3, 1, 0)", x.offset(3, 1, 0), -12);
        CHECK.due("offset(3, -1, 0)", x.offset(3, -1, 0), -12);
        CHECK.same("offset INDEX", x, before, 2);
        CHECK.due("offset(3, 0, 0)", x.offset(3, 0, 0), 0);
        CHECK.same("offset", x, before, 2);
    }
}
