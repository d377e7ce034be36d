import java.math.BigInteger;
import java.util.Arrays;

/** The edges of sheets, counts and the digest, promises 27 to 33: a test of its own for each sentence that names one. */
final class SheetsEdgesTest {
    private static final Check CHECK = new Check("SheetsEdgesTest");

    public static void main(String[] args) {
        sheet();
        sheetIsNew();
        sheetRefusals();
        lose();
        lay();
        layCut();
        layRefusals();
        get();
        copy();
        copyOfNone();
        copyInItself();
        copyRefusals();
        copyOrder();
        count();
        countsFull();
        countOfFindings();
        digest();
        digestOfTheMap();
        CHECK.end();
    }

    private static void sheet() {
        CHECK.sentence("27: SHEETS 0 .. 3, FORMS 0 to 2, 0 to 240 items");
        new Run(CHECK).calls("""
            sheet(0, 0, 0) = 0; sheet(3, 2, 240) = 240; sheet(1, 1, 1) = 1; sheet(2, 0, 239) = 239; lose(0) = 0
            lose(3) = 240; lose(1) = 1; lose(2) = 239
            """);
        CHECK.sentence("27: a row of 0 items has none");
        new Run(CHECK).calls("""
            sheet(0, 1, 0) = 0; get(0, 1, 0) = MIN; count(6) = 2; lay(0, 1, 0, 1) = INDEX; best(0) = NOT
            survey(0, 0, 0) = INDEX; copy(0, 0, 0, 0, 0) = 1; copy(0, 0, 0, 0, 1) = INDEX; lose(0) = 0; lose(0) = NULL
            """);
        CHECK.sentence("27: a row of 240 items has the last one");
        for (int form = 0; form < 3; form++) {
            new Run(CHECK).calls("""
                sheet(0, FORM, 240) = 240; get(0, FORM, 239) = 0; lay(0, FORM, 239, 9) = 1; get(0, FORM, 239) = 9
                get(0, FORM, 240) = MIN; lay(0, FORM, 240, 9) = INDEX; get(0, FORM, 238) = 0; survey(0, 29, 0) = 8
                survey(0, 30, 0) = INDEX
                """.replace("FORM", "" + form));
        }
    }

    private static void sheetIsNew() {
        CHECK.sentence("Terms, 27: a new row: its items are 0 at first");
        new Run(CHECK).calls("""
            sheet(0, 2, 240) = 240; lay(0, 2, 0, 5) = 1; lay(0, 2, 7, -5) = 1; lay(0, 2, 239, MAX) = 1
            sheet(0, 2, 240) = 240; get(0, 2, 0) = 0; get(0, 2, 7) = 0; get(0, 2, 239) = 0; lay(0, 2, 239, 1) = 1
            sheet(0, 2, 8) = 8; sheet(0, 2, 240) = 240; get(0, 2, 239) = 0; lay(0, 2, 100, 1) = 1; lose(0) = 240
            sheet(0, 0, 240) = 240; get(0, 0, 100) = 0
            """);
        CHECK.sentence("27: a new row of another FORM, of another length");
        new Run(CHECK).calls("""
            sheet(0, 0, 8) = 8; sheet(0, 1, 4) = 4; get(0, 0, 0) = MIN; count(6) = 3; get(0, 1, 3) = 0
            get(0, 1, 4) = MIN; count(6) = 2; sheet(0, 2, 5) = 5; get(0, 2, 4) = 0; lose(0) = 5
            """);
        CHECK.sentence("27: each SHEET is a row of its own");
        new Run(CHECK).calls("""
            sheet(0, 1, 2) = 2; sheet(1, 1, 2) = 2; sheet(2, 1, 2) = 2; sheet(3, 1, 2) = 2; lay(0, 1, 0, 10) = 1
            lay(1, 1, 0, 11) = 1; lay(2, 1, 0, 12) = 1; lay(3, 1, 0, 13) = 1; get(0, 1, 0) = 10; get(1, 1, 0) = 11
            get(2, 1, 0) = 12; get(3, 1, 0) = 13; lose(1) = 2; get(0, 1, 0) = 10; get(2, 1, 0) = 12
            """);
    }

    private static void sheetRefusals() {
        CHECK.sentence("27: BAD: SHEET, FORM, above 240");
        new Run(CHECK).calls("""
            sheet(-1, 0, 1) = BAD; sheet(4, 0, 1) = BAD; sheet(MIN, 0, 1) = BAD; sheet(MAX, 0, 1) = BAD
            sheet(0, -1, 1) = BAD; sheet(0, 3, 1) = BAD; sheet(0, MIN, 1) = BAD; sheet(0, MAX, 1) = BAD
            sheet(0, 0, 241) = BAD; sheet(0, 0, MAX) = BAD; count(6) = 0; lose(0) = NULL
            """);
        CHECK.sentence("27: SIZE: below 0; BAD ahead of it");
        new Run(CHECK).calls("""
            sheet(0, 0, -1) = SIZE; count(6) = 5; lose(0) = NULL; count(6) = 1; sheet(0, 0, MIN) = SIZE
            sheet(3, 2, -240) = SIZE; lose(3) = NULL; sheet(4, 0, -1) = BAD; sheet(-1, 0, -1) = BAD
            sheet(0, 3, -1) = BAD; sheet(0, -1, MIN) = BAD; count(6) = 1
            """);
        CHECK.sentence("27: a refusal leaves the row that was");
        new Run(CHECK).calls("""
            sheet(1, 1, 3) = 3; lay(1, 1, 2, 77) = 1; sheet(1, 0, -1) = SIZE; sheet(1, 3, 1) = BAD
            sheet(1, 2, 241) = BAD; get(1, 1, 2) = 77; lose(1) = 3
            """);
    }

    private static void lose() {
        CHECK.sentence("28: It is LOST: how many items it had: none, 240");
        new Run(CHECK).calls("""
            sheet(0, 0, 0) = 0; lose(0) = 0; lose(0) = NULL; sheet(0, 2, 240) = 240; lose(0) = 240; lose(0) = NULL
            get(0, 2, 0) = MIN; count(6) = 1; lay(0, 2, 0, 1) = NULL; best(0) = NULL; copy(0, 0, 0, 0, 0) = NULL
            """);
        CHECK.sentence("28: BAD; NULL");
        new Run(CHECK).calls("""
            lose(-1) = BAD; lose(4) = BAD; lose(MIN) = BAD; lose(MAX) = BAD; count(6) = 0; lose(0) = NULL
            lose(3) = NULL; count(6) = 1
            """);
    }

    private static void lay() {
        CHECK.sentence("29: Item i: the first and the last");
        new Run(CHECK).calls("""
            sheet(3, 2, 9) = 9; lay(3, 2, 0, MIN) = 1; lay(3, 2, 8, MAX) = 1; get(3, 2, 0) = MIN; count(6) = 0
            get(3, 2, 8) = MAX; get(3, 2, 1) = 0; get(3, 2, 7) = 0; lay(3, 2, 0, 0) = 1; get(3, 2, 0) = 0
            """);
    }

    /** What is laid is got as the FORM leaves it. */
    private static void laid(int form, long[][] values) {
        Run run = new Run(CHECK).due("sheet(2, " + form + ", 240)", 240);
        for (int i = 0; i < values.length; i++) {
            run.due("lay(2, " + form + ", " + i + ", " + values[i][0] + ")", 1);
        }
        for (int i = 0; i < values.length; i++) {
            run.due("get(2, " + form + ", " + i + ")", values[i][1]);
        }
        run.due("count(6)", 0);
    }

    private static void layCut() {
        long max = Integer.MAX_VALUE;
        long min = Integer.MIN_VALUE;
        CHECK.sentence("29: v (the lowest bits that it has): bytes");
        laid(0, new long[][] {{127, 127}, {128, -128}, {-128, -128}, {-129, 127}, {255, -1}, {256, 0}, {-1, -1},
            {-256, 0}, {max, -1}, {min, 0}, {32767, -1}, {383, 127}, {384, -128}, {65536, 0}, {305419896, 120}});
        CHECK.sentence("29: v (the lowest bits that it has): shorts");
        laid(1, new long[][] {{32767, 32767}, {32768, -32768}, {-32768, -32768}, {-32769, 32767}, {65535, -1}, {65536, 0},
            {-1, -1}, {-65536, 0}, {max, -1}, {min, 0}, {128, 128}, {255, 255}, {-129, -129}, {70000, 4464},
            {305419896, 22136}});
        CHECK.sentence("29: v (the lowest bits that it has): ints");
        laid(2, new long[][] {{max, max}, {min, min}, {-1, -1}, {32768, 32768}, {65536, 65536}, {128, 128}, {-129, -129},
            {-32769, -32769}, {305419896, 305419896}});
    }

    private static void layRefusals() {
        CHECK.sentence("29: BAD; NULL; CAST; INDEX, each ahead of the next");
        new Run(CHECK).calls("""
            sheet(1, 1, 8) = 8; lay(-1, 1, 0, 1) = BAD; lay(4, 1, 0, 1) = BAD; lay(1, -1, 0, 1) = BAD
            lay(1, 3, 0, 1) = BAD; lay(MIN, 1, 0, 1) = BAD; lay(MAX, 1, 0, 1) = BAD; lay(1, MIN, 0, 1) = BAD
            lay(1, MAX, 0, 1) = BAD; lay(0, 3, 0, 1) = BAD; lay(1, 3, 8, 1) = BAD; count(6) = 0
            lay(0, 1, 0, 1) = NULL; lay(0, 0, 240, 1) = NULL; lay(0, 2, -1, 1) = NULL; count(6) = 1
            lay(1, 0, 0, 1) = CAST; lay(1, 2, 0, 1) = CAST; lay(1, 2, 8, 1) = CAST; lay(1, 0, -1, 1) = CAST
            count(6) = 3; lay(1, 1, -1, 1) = INDEX; lay(1, 1, 8, 1) = INDEX; lay(1, 1, MIN, 1) = INDEX
            lay(1, 1, MAX, 1) = INDEX; count(6) = 2; lay(1, 1, 7, 1) = 1; lay(1, 1, 0, 1) = 1; get(1, 1, 1) = 0
            count(6) = 2
            """);
        CHECK.sentence("29: a longer row that was gives no item to a shorter one");
        new Run(CHECK).calls("""
            sheet(1, 1, 240) = 240; sheet(1, 1, 8) = 8; lay(1, 1, 8, 1) = INDEX; get(1, 1, 8) = MIN
            survey(1, 1, 0) = INDEX; copy(1, 0, 1, 1, 8) = INDEX; count(6) = 2
            """);
    }

    private static void get() {
        CHECK.sentence("30: BAD: the least int; count() 6 stays");
        new Run(CHECK).calls("""
            sheet(1, 1, 8) = 8; get(-1, 1, 0) = MIN; get(4, 1, 0) = MIN; get(1, -1, 0) = MIN; get(1, 3, 0) = MIN
            get(MIN, 1, 0) = MIN; get(MAX, 1, 0) = MIN; get(1, MIN, 0) = MIN; get(1, MAX, 0) = MIN; get(0, 3, 0) = MIN
            get(1, 3, 8) = MIN; count(6) = 0
            """);
        CHECK.sentence("30: NULL, CAST, INDEX: the least int (count() 6 tells), each ahead of the next");
        new Run(CHECK).calls("""
            sheet(1, 1, 8) = 8; get(0, 1, 0) = MIN; count(6) = 1; get(1, 2, 0) = MIN; count(6) = 3; get(1, 1, 8) = MIN
            count(6) = 2; get(0, 0, 240) = MIN; count(6) = 1; get(1, 0, 8) = MIN; count(6) = 3; get(1, 1, -1) = MIN
            count(6) = 2; get(0, 2, -1) = MIN; count(6) = 1; get(1, 2, -1) = MIN; count(6) = 3; get(1, 1, MAX) = MIN
            count(6) = 2; get(3, 1, 0) = MIN; count(6) = 1; get(1, 1, MIN) = MIN; count(6) = 2; get(1, 1, 7) = 0
            count(6) = 2
            """);
        CHECK.sentence("30: an item that is the least int is no FINDING");
        new Run(CHECK).calls("sheet(0, 2, 1) = 1; lay(0, 2, 0, MIN) = 1; get(0, 2, 0) = MIN; count(6) = 0");
    }

    private static void copy() {
        CHECK.sentence("31: n items come to SHEET t: all 240");
        new Run(CHECK).calls("""
            sheet(0, 2, 240) = 240; sheet(3, 2, 240) = 240; lay(0, 2, 0, 1) = 1; lay(0, 2, 120, -7) = 1
            lay(0, 2, 239, MIN) = 1; lay(3, 2, 5, 5) = 1; copy(0, 0, 3, 0, 240) = 1; get(3, 2, 0) = 1
            get(3, 2, 120) = -7; get(3, 2, 239) = MIN; get(3, 2, 5) = 0; copy(0, 0, 3, 0, 241) = INDEX
            copy(0, 1, 3, 0, 240) = INDEX; copy(0, 0, 3, 1, 240) = INDEX
            """);
        CHECK.sentence("31: from i on, from j on: the last item, the first item");
        new Run(CHECK).calls("""
            sheet(0, 0, 3) = 3; sheet(1, 0, 5) = 5; lay(0, 0, 0, 1) = 1; lay(0, 0, 2, 3) = 1; copy(0, 2, 1, 4, 1) = 1
            get(1, 0, 4) = 3; get(1, 0, 3) = 0; copy(0, 0, 1, 0, 1) = 1; get(1, 0, 0) = 1; get(1, 0, 1) = 0
            copy(1, 4, 0, 0, 1) = 1; get(0, 0, 0) = 3; copy(1, 0, 0, 2, 1) = 1; get(0, 0, 2) = 1
            copy(0, 0, 1, 2, 3) = 1; get(1, 0, 2) = 3; get(1, 0, 4) = 1
            """);
        CHECK.sentence("31: of each FORM");
        for (int form = 0; form < 3; form++) {
            new Run(CHECK).calls("""
                sheet(0, FORM, 2) = 2; sheet(1, FORM, 2) = 2; lay(0, FORM, 1, -3) = 1; copy(0, 1, 1, 0, 1) = 1
                get(1, FORM, 0) = -3; get(0, FORM, 1) = -3; lay(0, FORM, 1, 4) = 1; get(1, FORM, 0) = -3; count(6) = 0
                """.replace("FORM", "" + form));
        }
    }

    private static void copyOfNone() {
        CHECK.sentence("31: with n 0, too, if i or j is above how many there are");
        new Run(CHECK).calls("""
            sheet(0, 0, 4) = 4; sheet(1, 0, 2) = 2; lay(0, 0, 3, 9) = 1; copy(0, 0, 1, 0, 0) = 1
            copy(0, 4, 1, 2, 0) = 1; copy(0, 4, 1, 0, 0) = 1; copy(0, 0, 1, 2, 0) = 1; count(6) = 0
            copy(0, 5, 1, 0, 0) = INDEX; copy(0, 0, 1, 3, 0) = INDEX; copy(0, 5, 1, 3, 0) = INDEX
            copy(0, -1, 1, 0, 0) = INDEX; copy(0, 0, 1, -1, 0) = INDEX; copy(0, MAX, 1, 0, 0) = INDEX
            copy(0, 0, 1, MAX, 0) = INDEX; copy(0, MIN, 1, 0, 0) = INDEX; copy(0, 0, 1, MIN, 0) = INDEX; count(6) = 2
            get(1, 0, 0) = 0; get(1, 0, 1) = 0
            """);
        CHECK.sentence("31: of a SHEET without items, into one");
        new Run(CHECK).calls("""
            sheet(0, 1, 0) = 0; sheet(1, 1, 3) = 3; copy(0, 0, 0, 0, 0) = 1; copy(0, 0, 1, 3, 0) = 1
            copy(1, 3, 0, 0, 0) = 1; copy(0, 0, 1, 0, 1) = INDEX; copy(1, 0, 0, 0, 1) = INDEX
            copy(0, 1, 1, 0, 0) = INDEX; copy(1, 0, 0, 1, 0) = INDEX
            """);
    }

    private static void copyInItself() {
        CHECK.sentence("31: perhaps s, as they were");
        String five = """
            sheet(0, 2, 5) = 5; lay(0, 2, 0, 1) = 1; lay(0, 2, 1, 2) = 1; lay(0, 2, 2, 3) = 1; lay(0, 2, 3, 4) = 1
            lay(0, 2, 4, 5) = 1
            """;
        itself(five, "copy(0, 0, 0, 1, 4)", 1, 1, 2, 3, 4);
        itself(five, "copy(0, 1, 0, 0, 4)", 2, 3, 4, 5, 5);
        itself(five, "copy(0, 0, 0, 2, 3)", 1, 2, 1, 2, 3);
        itself(five, "copy(0, 2, 0, 0, 3)", 3, 4, 5, 4, 5);
        itself(five, "copy(0, 0, 0, 4, 1)", 1, 2, 3, 4, 1);
        itself(five, "copy(0, 4, 0, 0, 1)", 5, 2, 3, 4, 5);
        itself(five, "copy(0, 0, 0, 0, 5)", 1, 2, 3, 4, 5);
        itself(five, "copy(0, 5, 0, 5, 0)", 1, 2, 3, 4, 5);
    }

    private static void itself(String lines, String copy, int... due) {
        Run run = new Run(CHECK).calls(lines).due(copy, 1);
        for (int i = 0; i < due.length; i++) {
            run.due("get(0, 2, " + i + ")", due[i]);
        }
    }

    private static void copyRefusals() {
        CHECK.sentence("31: BAD: the SHEETS");
        new Run(CHECK).calls("""
            sheet(0, 0, 1) = 1; sheet(3, 0, 1) = 1; copy(-1, 0, 0, 0, 1) = BAD; copy(4, 0, 0, 0, 1) = BAD
            copy(0, 0, -1, 0, 1) = BAD; copy(0, 0, 4, 0, 1) = BAD; copy(MIN, 0, 0, 0, 1) = BAD
            copy(MAX, 0, 0, 0, 1) = BAD; copy(0, 0, MIN, 0, 1) = BAD; copy(0, 0, MAX, 0, 1) = BAD
            copy(4, 0, 4, 0, 1) = BAD; count(6) = 0; copy(0, 0, 3, 0, 1) = 1; copy(3, 0, 0, 0, 1) = 1
            """);
        CHECK.sentence("31: NULL: s, t");
        new Run(CHECK).calls("""
            sheet(0, 0, 1) = 1; copy(1, 0, 0, 0, 1) = NULL; count(6) = 1; sheet(2, 0, -1) = SIZE
            copy(0, 0, 1, 0, 1) = NULL; count(6) = 1; copy(1, 0, 1, 0, 0) = NULL; copy(1, 0, 2, 0, 0) = NULL
            """);
        CHECK.sentence("31: STORE: unlike FORMS");
        new Run(CHECK).calls("""
            sheet(0, 0, 1) = 1; sheet(1, 1, 1) = 1; sheet(2, 2, 1) = 1; copy(0, 0, 1, 0, 1) = STORE
            copy(1, 0, 0, 0, 1) = STORE; copy(1, 0, 2, 0, 1) = STORE; copy(2, 0, 1, 0, 1) = STORE
            copy(0, 0, 2, 0, 0) = STORE; copy(2, 0, 0, 0, 0) = STORE; count(6) = 4
            """);
        CHECK.sentence("31: INDEX: below 0, not so many");
        new Run(CHECK).calls("""
            sheet(0, 0, 4) = 4; sheet(1, 0, 3) = 3; lay(0, 0, 0, 5) = 1; copy(0, -1, 1, 0, 1) = INDEX
            copy(0, 0, 1, -1, 1) = INDEX; copy(0, 0, 1, 0, -1) = INDEX; copy(0, 2, 1, 0, 3) = INDEX
            copy(0, 4, 1, 0, 1) = INDEX; copy(0, 0, 1, 0, 4) = INDEX; copy(0, 0, 1, 1, 3) = INDEX
            copy(0, 0, 1, 3, 1) = INDEX; copy(0, MIN, 1, 0, 1) = INDEX; copy(0, 0, 1, MIN, 1) = INDEX
            copy(0, 0, 1, 0, MIN) = INDEX; copy(0, MAX, 1, 0, 1) = INDEX; copy(0, 0, 1, MAX, 1) = INDEX
            copy(0, 0, 1, 0, MAX) = INDEX; copy(0, 1, 1, 0, MAX) = INDEX; copy(0, 0, 1, 1, MAX) = INDEX
            copy(0, MAX, 1, MAX, MAX) = INDEX; copy(0, MIN, 1, MIN, MIN) = INDEX; copy(0, MAX, 1, 0, -1) = INDEX
            copy(0, 1, 1, 0, -1) = INDEX; copy(0, 0, 0, 1, 4) = INDEX; count(6) = 2; get(1, 0, 0) = 0
            get(1, 0, 1) = 0; get(1, 0, 2) = 0; get(0, 0, 0) = 5; get(0, 0, 1) = 0; copy(0, 1, 1, 0, 3) = 1
            copy(0, 0, 1, 0, 3) = 1; get(1, 0, 0) = 5
            """);
    }

    private static void copyOrder() {
        CHECK.sentence("31: BAD ahead of NULL, NULL ahead of STORE, STORE ahead of INDEX");
        new Run(CHECK).calls("""
            sheet(0, 0, 1) = 1; sheet(1, 1, 1) = 1; copy(2, 0, 4, 0, 1) = BAD; copy(-1, 0, 2, 0, -1) = BAD
            copy(0, -1, 4, 9, 1) = BAD; count(6) = 0; copy(2, 0, 1, 0, -1) = NULL; copy(0, 9, 2, 9, 9) = NULL
            count(6) = 1; copy(0, -1, 1, 0, 1) = STORE; copy(0, 0, 1, 9, 0) = STORE; copy(1, 0, 0, 0, -1) = STORE
            count(6) = 4; copy(0, 0, 0, 0, -1) = INDEX; count(6) = 2
            """);
    }

    private static void count() {
        CHECK.sentence("32: 0 to 10; else BAD");
        new Run(CHECK).calls("""
            count(-1) = BAD; count(11) = BAD; count(MIN) = BAD; count(MAX) = BAD; count(0) = 1; count(10) = 0
            count(6) = 0
            """);
    }

    private static void countsFull() {
        CHECK.sentence("32: all of them at their greatest");
        Run run = new Run(CHECK).calls("building(2, 6, 6) = 72; stay(9) = 1; least(1) = 3; sheet(0, 0, -1) = SIZE");
        for (int i = 0; i < 36; i++) {
            run.ask("lift(" + i % 6 + ", " + i / 6 + ", true)");
        }
        for (int sender = 0; sender < 8; sender++) {
            run.ask("dead(" + sender + ", true)");
        }
        for (int cell = 0; cell < 72; cell++) {
            run.ask("wall(" + cell + ", " + (cell + 1) + ", true)");
            run.ask("wall(" + cell + ", " + (cell + 6) + ", true)");
        }
        for (int walker = 0; walker < 20; walker++) {
            run.ask("put(" + walker + ", 0)");
        }
        for (int i = 0; i < 36; i++) {
            run.ask("give(0, 0, " + i % 6 + ", 0, " + i / 6 + ")");
        }
        run.calls("""
            count(0) = 2; count(1) = 6; count(2) = 6; count(3) = 120; count(4) = 36; count(5) = 30; count(6) = 5
            count(7) = 9; count(8) = 1; count(9) = 255; count(10) = 20; building(3, 6, 4) = 72; count(0) = 3
            count(3) = 0; count(4) = 0; count(5) = 0; count(6) = 5; count(7) = 9; count(8) = 1; count(9) = 255
            count(10) = 0
            """);
        CHECK.sentence("32: all of them at their least");
        new Run(CHECK).calls("""
            building(1, 1, 1) = 1; stay(0) = 1; least(1) = 3; count(0) = 1; count(1) = 1; count(2) = 1; count(3) = 0
            count(4) = 0; count(5) = 0; count(6) = 0; count(7) = 0; count(8) = 1; count(9) = 0; count(10) = 0
            """);
    }

    private static void countOfFindings() {
        CHECK.sentence("32: 6 the number of the latest FINDING (0 before any): 1 to 5");
        new Run(CHECK).calls("""
            count(6) = 0; lose(0) = NULL; count(6) = 1; sheet(0, 0, 1) = 1; lay(0, 0, 1, 0) = INDEX; count(6) = 2
            lay(0, 1, 0, 0) = CAST; count(6) = 3; sheet(1, 1, 1) = 1; copy(0, 0, 1, 0, 1) = STORE; count(6) = 4
            sheet(0, 0, -1) = SIZE; count(6) = 5; lose(2) = NULL; count(6) = 1
            """);
        CHECK.sentence("32: BAD, NOT and FULL are no FINDINGS");
        Run run = new Run(CHECK).calls("""
            sheet(0, 0, -1) = SIZE; count(6) = 5; sheet(0, 0, 0) = 0; best(0) = NOT; best(4) = BAD
            give(0, 0, 0, 0, 0) = NOT; least(1) = 3; put(0, 0) = NONE; building(1, 6, 6) = 36; put(0, 0) = NONE
            count(6) = 5
            """);
        for (int i = 0; i < 30; i++) {
            run.ask("give(0, 0, " + i % 6 + ", 0, " + i / 6 + ")");
        }
        run.calls("""
            give(0, 0, 5, 0, 5) = FULL; count(6) = 5; count(11) = BAD; count(6) = 5; far(0, 36) = BAD; count(6) = 5
            """);
    }

    /** Reckoned without wrapping, and cut to the lowest 64 bits at the end. */
    private static long reckoned(long[] values) {
        BigInteger h = BigInteger.valueOf(17);
        for (long value : values) {
            h = h.multiply(BigInteger.valueOf(31)).add(BigInteger.valueOf(value));
        }
        return h.longValue();
    }

    /** The values in their order: ten counts, SHARES of CELLS all alike, and 11 of each SENDER in each CELL. */
    private static long[] values(long[] counts, int cells) {
        long[] values = Arrays.copyOf(counts, 10 + 9 * cells);
        for (int cell = 0; cell < cells; cell++) {
            values[10 + cell] = 1000000 / cells + (cell < 1000000 % cells ? 1 : 0);
        }
        Arrays.fill(values, 10 + cells, values.length, 11);
        return values;
    }

    private static void digest() {
        long[] counts = {1, 4, 4, 0, 0, 0, 1, 3, 0, 0};
        CHECK.sentence("33: as longs that wrap: a new object");
        new Run(CHECK).due("digest()", reckoned(values(counts, 16)));
        CHECK.sentence("33: as longs that wrap: one CELL");
        long[] one = {1, 1, 1, 0, 0, 0, 1, 3, 0, 0};
        new Run(CHECK).calls("building(1, 1, 1) = 1").due("digest()", reckoned(values(one, 1)));
        CHECK.sentence("33: as longs that wrap: 72 CELLS");
        long[] most = {3, 4, 6, 0, 0, 0, 1, 3, 0, 0};
        new Run(CHECK).calls("building(3, 4, 6) = 72").due("digest()", reckoned(values(most, 72)));
        CHECK.sentence("33: counts in their order, count() 6 left out");
        long[] some = {2, 3, 1, 3, 2, 1, 8, 1, 128, 4};
        new Run(CHECK).calls("""
            building(2, 3, 1) = 6; wall(0, 1, true) = 1; wall(1, 2, true) = 1; wall(3, 4, true) = 1
            lift(0, 0, true) = 1; lift(2, 0, true) = 1; stay(8) = 1; least(1) = 3; dead(7, true) = 1; put(0, 0) = NONE
            put(1, 0) = NONE; put(2, 0) = NONE; put(3, 0) = NONE; give(0, 0, 0, 0, 0) = 4; lose(0) = NULL
            """).due("digest()", reckoned(values(some, 6)))
            .calls("sheet(0, 0, -1) = SIZE").due("digest()", reckoned(values(some, 6)));
        CHECK.sentence("33: SHARES of all CELLS, by CELL");
        long[] known = values(counts, 16);
        Arrays.fill(known, 10, 26, 0);
        known[25] = 1000000;
        new Run(CHECK).calls("known(15) = 1").due("digest()", reckoned(known));
        CHECK.sentence("33: digest() changes nothing");
        Run run = new Run(CHECK);
        long first = run.ask("digest()");
        run.due("digest()", first).calls("count(6) = 0").due("digest()", first);
    }

    private static void digestOfTheMap() {
        CHECK.sentence("33: of each SENDER in each CELL the WEIGHTS of -1 to 9 together: one more, all 255 more");
        int no = -2;
        int[][] rows = {{-1, -1, 0, 1, 9, 8, 5, 9}, {3, no, no, no, no, no, no, 9}, {no, no, no, no, no, no, no, 2}};
        long[] due = values(new long[] {1, 2, 1, 0, 0, 0, 1, 3, 0, 0}, 2);
        for (int sender = 0; sender < 8; sender++) {
            due[12 + 2 * sender + 1] = 11 + 255;
        }
        due[12] = 11 + 1;
        due[12 + 14] = 11 + 2;
        String surveys = "building(1, 2, 1); survey(0, 1, 0); survey(0, 2, 0)" + "; survey(0, 0, 1)".repeat(257);
        new Run(CHECK).rows(0, rows).prepared(surveys).due("digest()", reckoned(due));
    }
}
