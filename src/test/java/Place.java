/**
 * An InsidePlaces of which at most 512 calls are asked. "Nothing is promised about an object after its 512th
 * call": so a test that asks one more is itself at fault, and ends here.
 */
final class Place {
    /** "An object is used for at most 512 calls after it has been made." */
    static final int MOST_CALLS = 512;

    private final InsidePlaces asked = new InsidePlaces();
    private int calls = 0;

    /** How many calls it may still be asked. */
    int left() {
        return MOST_CALLS - calls;
    }

    private InsidePlaces next() {
        calls++;
        if (calls > MOST_CALLS) {
            throw new IllegalStateException("the test asks more than " + MOST_CALLS + " calls of one object");
        }
        return asked;
    }

    int building(int floors, int w, int h) {
        return next().building(floors, w, h);
    }

    int wall(int a, int b, boolean is) {
        return next().wall(a, b, is);
    }

    int lift(int x, int y, boolean is) {
        return next().lift(x, y, is);
    }

    int stay(int likely) {
        return next().stay(likely);
    }

    int step(int from, int to) {
        return next().step(from, to);
    }

    int far(int from, int to) {
        return next().far(from, to);
    }

    int dead(int sender, boolean is) {
        return next().dead(sender, is);
    }

    int survey(int s, int row, int cell) {
        return next().survey(s, row, cell);
    }

    int weight(int sender, int cell, int heard) {
        return next().weight(sender, cell, heard);
    }

    int offset(int s, int row, int cell) {
        return next().offset(s, row, cell);
    }

    int alike() {
        return next().alike();
    }

    int known(int cell) {
        return next().known(cell);
    }

    int lead(int n) {
        return next().lead(n);
    }

    int hear(int s, int row, int offset) {
        return next().hear(s, row, offset);
    }

    int share(int cell) {
        return next().share(cell);
    }

    int likeliest() {
        return next().likeliest();
    }

    int within(int floor, int x0, int x1, int y0, int y1) {
        return next().within(floor, x0, x1, y0, y1);
    }

    int sure(int most) {
        return next().sure(most);
    }

    int best(int s) {
        return next().best(s);
    }

    int way(int i) {
        return next().way(i);
    }

    int learn(int s) {
        return next().learn(s);
    }

    int moved(int s) {
        return next().moved(s);
    }

    int put(int walker, int cell) {
        return next().put(walker, cell);
    }

    int least(int n) {
        return next().least(n);
    }

    int give(int floor, int x0, int x1, int y0, int y1) {
        return next().give(floor, x0, x1, y0, y1);
    }

    int sheet(int s, int form, int n) {
        return next().sheet(s, form, n);
    }

    int lose(int s) {
        return next().lose(s);
    }

    int lay(int s, int form, int i, int v) {
        return next().lay(s, form, i, v);
    }

    int get(int s, int form, int i) {
        return next().get(s, form, i);
    }

    int copy(int s, int i, int t, int j, int n) {
        return next().copy(s, i, t, j, n);
    }

    int count(int what) {
        return next().count(what);
    }

    long digest() {
        return next().digest();
    }
}
