import java.util.function.Supplier;

/** Promises 27 to 33: sheet, lose, lay, get, copy, count, digest. */
final class SheetsTest {
    private static final Check CHECK = new Check("SheetsTest");
    private static final int NO = Integer.MIN_VALUE;

    public static void main(String[] args) {
        sheets();
        sheetRefusals();
        losing();
        laying();
        layRefusals();
        getRefusals();
        copying();
        copyRefusals();
        counts();
        digests();
        CHECK.end();
    }

    private static void sheets() {
        Place x = new Place();
        for (int s = 0; s < 4; s++) {
            for (int form = 0; form < 3; form++) {
                CHECK.due("sheet(" + s + ", " + form + ", 240)", x.sheet(s, form, 240), 240);
                CHECK.due("get of a new row", x.get(s, form, 0), 0);
                CHECK.due("get of a new row", x.get(s, form, 239), 0);
                CHECK.due("lay(239)", x.lay(s, form, 239, 7), 1);
                CHECK.due("sheet(" + s + ", " + form + ", 240)", x.sheet(s, form, 240), 240);
                CHECK.due("get of the new row", x.get(s, form, 239), 0);
            }
        }
        CHECK.due("sheet(1, 0, 0)", x.sheet(1, 0, 0), 0);
        CHECK.due("get(1, 0, 0)", x.get(1, 0, 0), NO);
        CHECK.due("count(6)", x.count(6), 2);
        CHECK.due("get(0, 2, 239)", x.get(0, 2, 239), 0);
        CHECK.due("lose(1) of none", x.lose(1), 0);
    }

    private static void sheetRefusals() {
        Place x = new Place();
        x.sheet(2, 1, 9);
        x.lay(2, 1, 8, 5);
        long before = x.digest();
        int[][] bad = {{-1, 0, 1}, {4, 0, 1}, {0, -1, 1}, {0, 3, 1}, {0, 0, 241}, {-1, 0, -1}, {0, 3, -1},
            {2, 0, Integer.MAX_VALUE}, {Integer.MIN_VALUE, 0, 0}, {2, Integer.MAX_VALUE, 0}};
        for (int[] call : bad) {
            CHECK.due("sheet(bad)", x.sheet(call[0], call[1], call[2]), InsidePlaces.BAD);
            CHECK.same("sheet(bad)", x, before, 0);
        }
        CHECK.due("sheet(2, 0, -1)", x.sheet(2, 0, -1), -15);
        CHECK.same("sheet SIZE", x, before, 5);
        CHECK.due("sheet(3, 0, min)", x.sheet(3, 0, NO), -15);
        CHECK.due("get(2, 1, 8) after refusals", x.get(2, 1, 8), 5);
        CHECK.due("lose(3) after refusals", x.lose(3), -11);
    }

    private static void losing() {
        Place x = new Place();
        x.sheet(1, 2, 17);
        long before = x.digest();
        CHECK.due("lose(-1)", x.lose(-1), InsidePlaces.BAD);
        CHECK.due("lose(4)", x.lose(4), InsidePlaces.BAD);
        CHECK.same("lose BAD", x, before, 0);
        CHECK.due("lose(0)", x.lose(0), -11);
        CHECK.same("lose NULL", x, before, 1);
        CHECK.due("lose(1)", x.lose(1), 17);
        CHECK.due("lose(1)", x.lose(1), -11);
        CHECK.due("get(1, 2, 0)", x.get(1, 2, 0), NO);
        CHECK.due("best(1)", x.best(1), -11);
        CHECK.due("sheet(1, 2, 3)", x.sheet(1, 2, 3), 3);
        CHECK.due("lose(1)", x.lose(1), 3);
    }

    private static void laying() {
        int[] values = {0, 1, -1, 127, 128, 255, 256, -128, -129, 32767, 32768, 65535, 65536, 70000, -32768, -32769,
            Integer.MAX_VALUE, Integer.MIN_VALUE, 0x12345678, 0x1234ff80};
        Place x = new Place();
        for (int form = 0; form < 3; form++) {
            x.sheet(form, form, values.length);
            for (int i = 0; i < values.length; i++) {
                CHECK.due("lay(" + values[i] + ")", x.lay(form, form, i, values[i]), 1);
            }
            for (int i = 0; i < values.length; i++) {
                int due = form == 0 ? (byte) values[i] : form == 1 ? (short) values[i] : values[i];
                CHECK.due("get of " + values[i] + " as " + form, x.get(form, form, i), due);
            }
        }
        CHECK.due("count(6)", x.count(6), 0);
    }

    private static void layRefusals() {
        Place x = new Place();
        x.sheet(1, 1, 8);
        x.sheet(2, 2, 0);
        long before = x.digest();
        CHECK.due("lay(-1, 1, 0, 1)", x.lay(-1, 1, 0, 1), InsidePlaces.BAD);
        CHECK.due("lay(4, 1, 0, 1)", x.lay(4, 1, 0, 1), InsidePlaces.BAD);
        CHECK.due("lay(0, 3, 0, 1)", x.lay(0, 3, 0, 1), InsidePlaces.BAD);
        CHECK.due("lay(1, -1, 9, 1)", x.lay(1, -1, 9, 1), InsidePlaces.BAD);
        CHECK.same("lay BAD", x, before, 0);
        CHECK.due("lay(0, 0, 9, 1)", x.lay(0, 0, 9, 1), -11);
        CHECK.same("lay NULL", x, before, 1);
        CHECK.due("lay(1, 0, 9, 1)", x.lay(1, 0, 9, 1), -13);
        CHECK.due("lay(1, 2, 0, 1)", x.lay(1, 2, 0, 1), -13);
        CHECK.same("lay CAST", x, before, 3);
        CHECK.due("lay(1, 1, 8, 1)", x.lay(1, 1, 8, 1), -12);
        CHECK.due("lay(1, 1, -1, 1)", x.lay(1, 1, -1, 1), -12);
        CHECK.due("lay(1, 1, min, 1)", x.lay(1, 1, NO, 1), -12);
        CHECK.due("lay(1, 1, max, 1)", x.lay(1, 1, Integer.MAX_VALUE, 1), -12);
        CHECK.due("lay(2, 2, 0, 1)", x.lay(2, 2, 0, 1), -12);
        CHECK.same("lay INDEX", x, before, 2);
        for (int i = 0; i < 8; i++) {
            CHECK.due("get after refusals", x.get(1, 1, i), 0);
        }
    }

    private static void getRefusals() {
        Place x = new Place();
        x.sheet(1, 1, 8);
        x.lay(1, 1, 7, -9);
        CHECK.due("get(-1, 1, 0)", x.get(-1, 1, 0), NO);
        CHECK.due("get(4, 1, 0)", x.get(4, 1, 0), NO);
        CHECK.due("get(1, 3, 0)", x.get(1, 3, 0), NO);
        CHECK.due("get(0, -1, 9)", x.get(0, -1, 9), NO);
        CHECK.due("count(6) after BAD", x.count(6), 0);
        CHECK.due("get(0, 0, 9)", x.get(0, 0, 9), NO);
        CHECK.due("count(6) after NULL", x.count(6), 1);
        CHECK.due("get(1, 0, 9)", x.get(1, 0, 9), NO);
        CHECK.due("count(6) after CAST", x.count(6), 3);
        CHECK.due("get(1, 1, 8)", x.get(1, 1, 8), NO);
        CHECK.due("count(6) after INDEX", x.count(6), 2);
        CHECK.due("get(1, 1, -1)", x.get(1, 1, -1), NO);
        CHECK.due("get(4, 1, 0)", x.get(4, 1, 0), NO);
        CHECK.due("count(6) after BAD", x.count(6), 2);
        CHECK.due("get(1, 1, 7)", x.get(1, 1, 7), -9);
        CHECK.due("count(6) after an item", x.count(6), 2);
    }

    private static void copying() {
        Place x = new Place();
        x.sheet(0, 0, 10);
        x.sheet(3, 0, 4);
        for (int i = 0; i < 10; i++) {
            x.lay(0, 0, i, i + 1);
        }
        CHECK.due("copy(0, 6, 3, 0, 4)", x.copy(0, 6, 3, 0, 4), 1);
        items(x, 3, 7, 8, 9, 10);
        CHECK.due("copy(0, 0, 3, 1, 2)", x.copy(0, 0, 3, 1, 2), 1);
        items(x, 3, 7, 1, 2, 10);
        CHECK.due("copy up in itself", x.copy(0, 0, 0, 3, 5), 1);
        items(x, 0, 1, 2, 3, 1, 2, 3, 4, 5, 9, 10);
        CHECK.due("copy down in itself", x.copy(0, 4, 0, 2, 6), 1);
        items(x, 0, 1, 2, 2, 3, 4, 5, 9, 10, 9, 10);
        CHECK.due("copy of none at the ends", x.copy(0, 10, 3, 4, 0), 1);
        CHECK.due("copy on itself", x.copy(3, 0, 3, 0, 4), 1);
        items(x, 3, 7, 1, 2, 10);
        CHECK.due("copy back", x.copy(3, 0, 0, 0, 1), 1);
        items(x, 0, 7, 2, 2, 3, 4, 5, 9, 10, 9, 10);
        x.sheet(1, 0, 0);
        CHECK.due("copy of none into none", x.copy(1, 0, 1, 0, 0), 1);
        x.sheet(1, 2, 2);
        x.sheet(2, 2, 2);
        x.lay(1, 2, 1, 1 << 30);
        CHECK.due("copy(1, 1, 2, 0, 1)", x.copy(1, 1, 2, 0, 1), 1);
        CHECK.due("get(2, 2, 0)", x.get(2, 2, 0), 1 << 30);
        x.lay(1, 2, 1, 5);
        CHECK.due("get(2, 2, 0) later", x.get(2, 2, 0), 1 << 30);
        CHECK.due("count(6)", x.count(6), 0);
    }

    private static void items(Place x, int s, int... due) {
        for (int i = 0; i < due.length; i++) {
            CHECK.due("get(" + s + ", 0, " + i + ")", x.get(s, 0, i), due[i]);
        }
    }

    private static void copyRefusals() {
        Place x = new Place();
        x.sheet(0, 0, 10);
        x.sheet(1, 0, 4);
        x.sheet(2, 2, 10);
        for (int i = 0; i < 4; i++) {
            x.lay(1, 0, i, i + 5);
        }
        long before = x.digest();
        CHECK.due("copy(-1, 0, 0, 0, 1)", x.copy(-1, 0, 0, 0, 1), InsidePlaces.BAD);
        CHECK.due("copy(4, 0, 3, 0, 1)", x.copy(4, 0, 3, 0, 1), InsidePlaces.BAD);
        CHECK.due("copy(3, 0, 4, 0, 1)", x.copy(3, 0, 4, 0, 1), InsidePlaces.BAD);
        CHECK.due("copy(0, 0, -1, 0, 1)", x.copy(0, 0, -1, 0, 1), InsidePlaces.BAD);
        CHECK.same("copy BAD", x, before, 0);
        CHECK.due("copy(0, 0, 3, 0, -1)", x.copy(0, 0, 3, 0, -1), -11);
        CHECK.due("copy(3, 0, 0, 99, 1)", x.copy(3, 0, 0, 99, 1), -11);
        CHECK.due("copy(3, 0, 3, 0, 0)", x.copy(3, 0, 3, 0, 0), -11);
        CHECK.same("copy NULL", x, before, 1);
        CHECK.due("copy(0, 99, 2, 0, 1)", x.copy(0, 99, 2, 0, 1), -14);
        CHECK.due("copy(2, 0, 1, 0, 0)", x.copy(2, 0, 1, 0, 0), -14);
        CHECK.same("copy STORE", x, before, 4);
        int max = Integer.MAX_VALUE;
        int[][] bad = {{-1, 0, 1}, {0, -1, 1}, {0, 0, -1}, {0, 0, 5}, {0, 1, 4}, {0, 5, 0}, {11, 0, 0}, {10, 0, 1},
            {7, 0, 4}, {0, 4, 1}, {max, 0, 1}, {0, max, 1}, {0, 0, max}, {max, max, max}, {NO, 0, 1}, {0, NO, 1},
            {0, 0, NO}, {1, 1, max}, {max, 0, 0}, {0, max, 0}};
        for (int[] call : bad) {
            CHECK.due("copy(0, " + call[0] + ", 1, " + call[1] + ", " + call[2] + ")",
                x.copy(0, call[0], 1, call[1], call[2]), -12);
            CHECK.same("copy INDEX", x, before, 2);
        }
        items(x, 1, 5, 6, 7, 8);
    }

    private static void counts() {
        Place x = new Place();
        x.building(3, 2, 4);
        x.wall(0, 1, true);
        x.wall(0, 2, true);
        x.lift(0, 3, true);
        x.stay(6);
        x.dead(4, true);
        x.put(3, 1);
        x.put(4, 1);
        x.least(2);
        x.give(0, 1, 1, 0, 0);
        x.sheet(0, 0, -1);
        int[] due = {3, 2, 4, 2, 1, 1, 5, 6, 2, 16, 2};
        for (int what = 0; what < due.length; what++) {
            CHECK.due("count(" + what + ")", x.count(what), due[what]);
        }
        int[] bad = {-1, 11, Integer.MIN_VALUE, Integer.MAX_VALUE};
        for (int what : bad) {
            CHECK.due("count(" + what + ")", x.count(what), InsidePlaces.BAD);
        }
        CHECK.due("count(6) after BAD", x.count(6), 5);
        // Each FINDING has its number; what is no FINDING leaves the latest.
        x.lose(0);
        CHECK.due("count(6) after NULL", x.count(6), 1);
        x.sheet(1, 0, 3);
        x.lay(1, 0, 3, 0);
        CHECK.due("count(6) after INDEX", x.count(6), 2);
        x.lay(1, 1, 3, 0);
        CHECK.due("count(6) after CAST", x.count(6), 3);
        x.sheet(2, 1, 3);
        x.copy(1, 0, 2, 0, 0);
        CHECK.due("count(6) after STORE", x.count(6), 4);
        x.best(1);
        x.building(1, 1, 1);
        CHECK.due("count(6) after building", x.count(6), 4);
    }

    private static void digests() {
        digest(Place::new, 16);
        digest(() -> smaller(new Place()), 12);
        digest(SheetsTest::used, 12);
        digest(() -> {
            Place x = used();
            CHECK.due("lay(0, 0, 0, 0)", x.lay(0, 0, 0, 0), -13);
            return x;
        }, 12);
        digest(() -> {
            Place x = used();
            CHECK.due("building(3, 4, 6)", x.building(3, 4, 6), 72);
            return x;
        }, 72);
    }

    private static Place smaller(Place x) {
        CHECK.due("building(2, 3, 2)", x.building(2, 3, 2), 12);
        return x;
    }

    private static Place used() {
        Place x = smaller(new Place());
        Check.fill(x, 0, new int[] {1, 2, -1, 9, 33}, new int[] {7, 7, 7, 7, 7, 7, 7, 7});
        x.survey(0, 0, 11);
        x.survey(0, 1, 3);
        x.survey(0, 1, 3);
        x.dead(7, true);
        x.dead(0, true);
        x.stay(8);
        x.wall(1, 4, true);
        x.lift(1, 1, true);
        x.lift(0, 0, true);
        for (int walker = 0; walker < 7; walker++) {
            x.put(walker, 2);
        }
        x.least(5);
        x.give(0, 0, 2, 0, 1);
        x.known(7);
        x.lead(3);
        x.lose(3);
        return x;
    }

    /** The digest by what the calls tell; objects made alike, as one is used for at most 512 calls. */
    private static void digest(Supplier<Place> made, int cells) {
        Place x = made.get();
        long h = 17;
        int[] whats = {0, 1, 2, 3, 4, 5, 7, 8, 9, 10};
        for (int what : whats) {
            h = 31 * h + x.count(what);
        }
        for (int cell = 0; cell < cells; cell++) {
            h = 31 * h + x.share(cell);
        }
        for (int sender = 0; sender < 8; sender++) {
            Place asked = made.get();
            for (int cell = 0; cell < cells; cell++) {
                asked = asked.left() < 11 ? made.get() : asked;
                long sum = 0;
                for (int heard = -1; heard <= 9; heard++) {
                    sum += asked.weight(sender, cell, heard);
                }
                h = 31 * h + sum;
            }
        }
        CHECK.due("digest()", x.digest(), h);
        CHECK.due("digest() again", x.digest(), h);
    }
}
