import java.math.BigInteger;
import java.util.ArrayDeque;
import java.util.ArrayList;
import java.util.Arrays;
import java.util.HashMap;
import java.util.HashSet;
import java.util.List;
import java.util.Map;
import java.util.Set;
import java.util.TreeMap;

/** The document once more, written as differently as may be: sets, maps and big numbers, nothing kept ready. */
final class Oracle {
    private int floors;
    private int w;
    private int h;
    private final Set<Set<Integer>> walls = new HashSet<>();
    private final Set<List<Integer>> lifts = new HashSet<>();
    private int stay = 1;
    private final Set<Integer> deadOnes = new HashSet<>();
    private final Map<List<Integer>, Integer> map = new HashMap<>();
    private List<BigInteger> shares = new ArrayList<>();
    private List<Integer> told = List.of();
    private final Map<Integer, Integer> walkers = new TreeMap<>();
    private final Set<Set<Integer>> given = new HashSet<>();
    private int least = 3;
    private final int[][] sheets = new int[4][];
    private final int[] forms = new int[4];
    private int finding = 0;

    Oracle() {
        building(1, 4, 4);
    }

    private int cells() {
        return floors * w * h;
    }

    private boolean cell(int c) {
        return c >= 0 && c < cells();
    }

    private int found(int number) {
        finding = number;
        return -10 - number;
    }

    int building(int newFloors, int newW, int newH) {
        if (newFloors < 1 || newFloors > 3 || newW < 1 || newW > 6 || newH < 1 || newH > 6 || newFloors * newW * newH > 72) {
            return -2;
        }
        floors = newFloors;
        w = newW;
        h = newH;
        walls.clear();
        lifts.clear();
        map.clear();
        walkers.clear();
        given.clear();
        alike();
        return cells();
    }

    private List<Integer> place(int c) {
        return List.of(c / (w * h), c % (w * h) / w, c % w);
    }

    private boolean beside(int a, int b) {
        List<Integer> p = place(a);
        List<Integer> q = place(b);
        return p.get(0).equals(q.get(0))
            && Math.abs(p.get(1) - q.get(1)) + Math.abs(p.get(2) - q.get(2)) == 1;
    }

    int wall(int a, int b, boolean is) {
        if (!cell(a) || !cell(b) || !beside(a, b)) {
            return -2;
        }
        return (is ? walls.add(Set.of(a, b)) : walls.remove(Set.of(a, b))) ? 1 : 0;
    }

    int lift(int x, int y, boolean is) {
        if (x < 0 || x >= w || y < 0 || y >= h) {
            return -2;
        }
        return (is ? lifts.add(List.of(y, x)) : lifts.remove(List.of(y, x))) ? 1 : 0;
    }

    int stay(int likely) {
        if (likely < 0 || likely > 9) {
            return -2;
        }
        int was = stay;
        stay = likely;
        return was;
    }

    int step(int from, int to) {
        if (!cell(from) || !cell(to)) {
            return -2;
        }
        if (from == to) {
            return stay;
        }
        if (beside(from, to)) {
            return walls.contains(Set.of(from, to)) ? 0 : 2;
        }
        List<Integer> p = place(from);
        List<Integer> q = place(to);
        boolean over = p.subList(1, 3).equals(q.subList(1, 3)) && Math.abs(p.get(0) - q.get(0)) == 1;
        return over && lifts.contains(p.subList(1, 3)) ? 1 : 0;
    }

    int far(int from, int to) {
        if (!cell(from) || !cell(to)) {
            return -2;
        }
        Map<Integer, Integer> reached = new HashMap<>();
        ArrayDeque<Integer> open = new ArrayDeque<>(List.of(from));
        reached.put(from, 0);
        while (!open.isEmpty()) {
            int at = open.remove();
            for (int next = 0; next < cells(); next++) {
                if (step(at, next) > 0 && !reached.containsKey(next)) {
                    reached.put(next, reached.get(at) + 1);
                    open.add(next);
                }
            }
        }
        return reached.getOrDefault(to, -1);
    }

    int dead(int sender, boolean is) {
        if (sender < 0 || sender > 7) {
            return -2;
        }
        if (is) {
            deadOnes.add(sender);
        } else {
            deadOnes.remove(sender);
        }
        return 1;
    }

    private boolean lost(int s) {
        return sheets[s] == null;
    }

    private boolean noRow(int s, int row) {
        return row < 0 || row >= sheets[s].length / 8;
    }

    /** What was heard by an OFFSET; null: MISSING. */
    private Integer heard(int s, int row, int sender, int offset) {
        int item = sheets[s][row * 8 + sender];
        if (item == -1) {
            return -1;
        }
        return item < 0 || item > 9 ? null : Integer.valueOf(Math.min(9, Math.max(0, item - offset)));
    }

    private int theWeight(int sender, int c, int loud) {
        return map.getOrDefault(List.of(sender, c, loud), 0) + 1;
    }

    private int surveyed(int s, int row, int c) {
        int number = 0;
        for (int sender = 0; sender < 8; sender++) {
            Integer loud = heard(s, row, sender, 0);
            if (loud != null) {
                map.merge(List.of(sender, c, loud), 1, (a, b) -> Math.min(255, a + b));
                number++;
            }
        }
        return number;
    }

    int survey(int s, int row, int c) {
        if (s < 0 || s > 3 || !cell(c)) {
            return -2;
        }
        return lost(s) ? found(1) : noRow(s, row) ? found(2) : surveyed(s, row, c);
    }

    int weight(int sender, int c, int loud) {
        return sender < 0 || sender > 7 || !cell(c) || loud < -1 || loud > 9 ? -2 : theWeight(sender, c, loud);
    }

    private int rowWeight(int s, int row, int c, int offset, int without) {
        int sum = 0;
        for (int sender = 0; sender < 8; sender++) {
            Integer loud = heard(s, row, sender, offset);
            if (loud != null && sender != without && !deadOnes.contains(sender)) {
                sum += theWeight(sender, c, loud);
            }
        }
        return sum;
    }

    int offset(int s, int row, int c) {
        if (s < 0 || s > 3 || !cell(c)) {
            return -100;
        }
        if (lost(s)) {
            return found(1);
        }
        if (noRow(s, row)) {
            return found(2);
        }
        List<Integer> all = new ArrayList<>(List.of(0, -1, 1, -2, 2, -3, 3, -4, 4));
        all.sort((a, b) -> rowWeight(s, row, c, b, -1) - rowWeight(s, row, c, a, -1));
        return all.get(0);
    }

    private void makeWhole(List<BigInteger> weights) {
        BigInteger sum = weights.stream().reduce(BigInteger.ZERO, BigInteger::add);
        BigInteger million = BigInteger.valueOf(1000000);
        List<BigInteger> made = new ArrayList<>();
        List<Integer> order = new ArrayList<>();
        BigInteger lacking = million;
        for (int c = 0; c < weights.size(); c++) {
            made.add(weights.get(c).multiply(million).divide(sum));
            lacking = lacking.subtract(made.get(c));
            order.add(c);
        }
        order.sort((a, b) -> weights.get(b).multiply(million).mod(sum).compareTo(weights.get(a).multiply(million).mod(sum)));
        for (int i = 0; i < lacking.intValueExact(); i++) {
            made.set(order.get(i), made.get(order.get(i)).add(BigInteger.ONE));
        }
        shares = made;
    }

    int alike() {
        List<BigInteger> weights = new ArrayList<>();
        for (int c = 0; c < cells(); c++) {
            weights.add(BigInteger.ONE);
        }
        makeWhole(weights);
        return share(cells() - 1);
    }

    int known(int c) {
        if (!cell(c)) {
            return -2;
        }
        List<BigInteger> weights = new ArrayList<>();
        for (int other = 0; other < cells(); other++) {
            weights.add(other == c ? BigInteger.TEN : BigInteger.ZERO);
        }
        makeWhole(weights);
        return 1;
    }

    private int withShare() {
        return (int) shares.stream().filter(share -> share.signum() > 0).count();
    }

    int lead(int n) {
        if (n < 1 || n > 20) {
            return -2;
        }
        for (int i = 0; i < n; i++) {
            List<BigInteger> weights = new ArrayList<>();
            for (int to = 0; to < cells(); to++) {
                weights.add(BigInteger.ZERO);
            }
            for (int from = 0; from < cells(); from++) {
                BigInteger leaving = shares.get(from).multiply(BigInteger.valueOf(1000));
                long sum = 0;
                for (int to = 0; to < cells(); to++) {
                    sum += step(from, to);
                }
                for (int to = 0; to < cells(); to++) {
                    BigInteger part = sum == 0 ? (to == from ? leaving : BigInteger.ZERO)
                        : leaving.multiply(BigInteger.valueOf(step(from, to))).divide(BigInteger.valueOf(sum));
                    weights.set(to, weights.get(to).add(part));
                }
            }
            makeWhole(weights);
        }
        return withShare();
    }

    int hear(int s, int row, int offset) {
        if (s < 0 || s > 3 || offset < -4 || offset > 4) {
            return -2;
        }
        if (lost(s)) {
            return found(1);
        }
        if (noRow(s, row)) {
            return found(2);
        }
        List<BigInteger> weights = new ArrayList<>();
        boolean any = false;
        for (int c = 0; c < cells(); c++) {
            int number = 1000;
            for (int sender = 0; sender < 8; sender++) {
                Integer loud = heard(s, row, sender, offset);
                if (loud != null && !deadOnes.contains(sender)) {
                    int greatest = 0;
                    for (int other = 0; other < cells(); other++) {
                        greatest = Math.max(greatest, theWeight(sender, other, loud));
                    }
                    number = number * theWeight(sender, c, loud) / greatest;
                }
            }
            weights.add(shares.get(c).multiply(BigInteger.valueOf(number)));
            any |= weights.get(c).signum() > 0;
        }
        if (!any) {
            return -3;
        }
        makeWhole(weights);
        return withShare();
    }

    int share(int c) {
        return cell(c) ? shares.get(c).intValueExact() : -2;
    }

    private List<Integer> greatestFirst() {
        List<Integer> order = new ArrayList<>();
        for (int c = 0; c < cells(); c++) {
            order.add(c);
        }
        order.sort((a, b) -> shares.get(b).compareTo(shares.get(a)));
        return order;
    }

    int likeliest() {
        return greatestFirst().get(0);
    }

    /** The CELLS of an AREA; null: there is no such AREA. */
    private Set<Integer> area(int floor, int x0, int x1, int y0, int y1) {
        if (floor < 0 || floor >= floors || x0 < 0 || x1 >= w || x0 > x1 || y0 < 0 || y1 >= h || y0 > y1) {
            return null;
        }
        Set<Integer> area = new HashSet<>();
        for (int c = 0; c < cells(); c++) {
            List<Integer> p = place(c);
            if (p.get(0) == floor && p.get(1) >= y0 && p.get(1) <= y1 && p.get(2) >= x0 && p.get(2) <= x1) {
                area.add(c);
            }
        }
        return area;
    }

    int within(int floor, int x0, int x1, int y0, int y1) {
        Set<Integer> area = area(floor, x0, x1, y0, y1);
        return area == null ? -2 : area.stream().mapToInt(this::share).sum();
    }

    int sure(int most) {
        if (most < 0 || most > 1000000) {
            return -2;
        }
        int number = 0;
        int sum = 0;
        for (int c : greatestFirst()) {
            if (sum >= most) {
                break;
            }
            sum += share(c);
            number++;
        }
        return number;
    }

    /** A way so far, and its SCORE. */
    private static final class Path {
        final int score;
        final List<Integer> cells;

        Path(int score, List<Integer> cells) {
            this.score = score;
            this.cells = cells;
        }

        boolean before(Path other) {
            if (other == null || score != other.score) {
                return other == null || score > other.score;
            }
            for (int i = 0; i < cells.size(); i++) {
                if (!cells.get(i).equals(other.cells.get(i))) {
                    return cells.get(i) < other.cells.get(i);
                }
            }
            return false;
        }
    }

    /** Led from the first ROW on: of all ways that end in a CELL the best; null: there is no way. */
    private Path bestPath(int s, int without) {
        Path[] ends = new Path[cells()];
        for (int row = 0; row < sheets[s].length / 8; row++) {
            Path[] next = new Path[cells()];
            for (int to = 0; to < cells(); to++) {
                int here = rowWeight(s, row, to, 0, without);
                if (row == 0) {
                    next[to] = new Path(here, List.of(to));
                    continue;
                }
                for (int from = 0; from < cells(); from++) {
                    int likely = ends[from] == null ? 0 : step(from, to);
                    if (likely > 0) {
                        List<Integer> longer = new ArrayList<>(ends[from].cells);
                        longer.add(to);
                        Path path = new Path(ends[from].score + likely + here, longer);
                        next[to] = path.before(next[to]) ? path : next[to];
                    }
                }
            }
            ends = next;
        }
        Path best = null;
        for (Path path : ends) {
            best = path != null && path.before(best) ? path : best;
        }
        return best;
    }

    int best(int s) {
        if (s < 0 || s > 3) {
            return -2;
        }
        if (lost(s)) {
            return found(1);
        }
        Path path = bestPath(s, -1);
        if (path == null) {
            return -3;
        }
        told = path.cells;
        return path.score;
    }

    int way(int i) {
        return i < 0 || i >= told.size() ? -2 : told.get(i);
    }

    int learn(int s) {
        int score = best(s);
        if (score < 0) {
            return score;
        }
        for (int row = 0; row < told.size(); row++) {
            surveyed(s, row, told.get(row));
        }
        return told.size();
    }

    int moved(int s) {
        if (s < 0 || s > 3) {
            return -2;
        }
        if (lost(s)) {
            return found(1);
        }
        int bits = 0;
        for (int sender = 0; sender < 8; sender++) {
            Path path = bestPath(s, sender);
            if (path == null) {
                return -3;
            }
            int balance = 0;
            for (int row = 0; row < path.cells.size(); row++) {
                Integer loud = heard(s, row, sender, 0);
                balance += loud == null ? 0 : theWeight(sender, path.cells.get(row), loud) == 1 ? 1 : -1;
            }
            bits += balance > 0 && !deadOnes.contains(sender) ? 1 << sender : 0;
        }
        return bits;
    }

    int put(int walker, int c) {
        if (walker < 0 || walker > 19 || c != -1 && !cell(c)) {
            return -2;
        }
        Integer was = c == -1 ? walkers.remove(walker) : walkers.put(walker, c);
        given.clear();
        return was == null ? -1 : was;
    }

    int least(int n) {
        if (n < 1 || n > 20) {
            return -2;
        }
        int was = least;
        least = n;
        given.clear();
        return was;
    }

    int give(int floor, int x0, int x1, int y0, int y1) {
        Set<Integer> area = area(floor, x0, x1, y0, y1);
        if (area == null) {
            return -2;
        }
        for (Set<Integer> other : given) {
            Set<Integer> apart = new HashSet<>(area);
            apart.addAll(other);
            Set<Integer> both = new HashSet<>(area);
            both.retainAll(other);
            apart.removeAll(both);
            if (!apart.isEmpty() && apart.size() < least) {
                return -3;
            }
        }
        int number = (int) walkers.values().stream().filter(area::contains).count();
        if (number < least) {
            return -3;
        }
        if (!given.contains(area) && given.size() == 30) {
            return -4;
        }
        given.add(area);
        return number / least * least;
    }

    int sheet(int s, int form, int n) {
        if (s < 0 || s > 3 || form < 0 || form > 2 || n > 240) {
            return -2;
        }
        if (n < 0) {
            return found(5);
        }
        sheets[s] = new int[n];
        forms[s] = form;
        return n;
    }

    int lose(int s) {
        if (s < 0 || s > 3) {
            return -2;
        }
        if (lost(s)) {
            return found(1);
        }
        int n = sheets[s].length;
        sheets[s] = null;
        return n;
    }

    private int item(int s, int form, int i) {
        return lost(s) ? found(1) : forms[s] != form ? found(3) : i < 0 || i >= sheets[s].length ? found(2) : 0;
    }

    int lay(int s, int form, int i, int v) {
        if (s < 0 || s > 3 || form < 0 || form > 2) {
            return -2;
        }
        int problem = item(s, form, i);
        if (problem < 0) {
            return problem;
        }
        int spare = form == 0 ? 24 : form == 1 ? 16 : 0;
        sheets[s][i] = v << spare >> spare;
        return 1;
    }

    int get(int s, int form, int i) {
        if (s < 0 || s > 3 || form < 0 || form > 2 || item(s, form, i) < 0) {
            return Integer.MIN_VALUE;
        }
        return sheets[s][i];
    }

    int copy(int s, int i, int t, int j, int n) {
        if (s < 0 || s > 3 || t < 0 || t > 3) {
            return -2;
        }
        if (lost(s) || lost(t)) {
            return found(1);
        }
        if (forms[s] != forms[t]) {
            return found(4);
        }
        if (i < 0 || j < 0 || n < 0 || (long) i + n > sheets[s].length || (long) j + n > sheets[t].length) {
            return found(2);
        }
        int[] taken = Arrays.copyOfRange(sheets[s], i, i + n);
        for (int k = 0; k < n; k++) {
            sheets[t][j + k] = taken[k];
        }
        return 1;
    }

    int count(int what) {
        int bits = deadOnes.stream().mapToInt(sender -> 1 << sender).sum();
        int[] counts = {floors, w, h, walls.size(), lifts.size(), given.size(), finding, stay, least, bits, walkers.size()};
        return what < 0 || what > 10 ? -2 : counts[what];
    }

    long digest() {
        List<Long> all = new ArrayList<>();
        for (int what : new int[] {0, 1, 2, 3, 4, 5, 7, 8, 9, 10}) {
            all.add((long) count(what));
        }
        shares.forEach(share -> all.add(share.longValueExact()));
        long[][] together = new long[8][cells()];
        map.forEach((key, number) -> together[key.get(0)][key.get(1)] += number);
        for (long[] row : together) {
            for (long sum : row) {
                all.add(sum + 11);
            }
        }
        long digest = 17;
        for (long one : all) {
            digest = 31 * digest + one;
        }
        return digest;
    }
}
