import java.util.Arrays;

/**
 * A place inside a building, told without sky: where one may be as exact shares of cells, a map of
 * what senders are heard where, the best way through what was heard, and counts of walkers that are
 * given away only where enough walk. The words in capitals in comments are the document's.
 */
public final class InsidePlaces {
    public static final int NONE = -1, BAD = -2, NOT = -3, FULL = -4;

    private static final int MOST_FLOORS = 3, MOST_SIDE = 6, MOST_PLACES = 36, MOST_CELLS = 72;
    private static final int MOST_STAY = 9, DIRECTIONS = 7, STAYING = 3;
    private static final int SENDERS = 8, NOTHING = -1, LOUDEST = 9, LEVELS = 11, MISSING = -2;
    private static final int MOST_COUNT = 255, MOST_OFFSET = 4, BAD_OFFSET = -100;
    private static final int SHEETS = 4, FORMS = 3, BYTES = 0, SHORTS = 1, MOST_ITEMS = 240, MOST_ROWS = 30;
    private static final int LEAST_INT = -2147483648;
    private static final int NULL = 1, INDEX = 2, CAST = 3, STORE = 4, SIZE = 5;
    private static final int WHOLE = 1000000, MOST_STEPS = 20, NO_WAY = -1;
    private static final int WALKERS = 20, MOST_LEAST = 20, MOST_GIVEN = 30;

    private final House house;
    private final RadioMap map;
    private final Chances chances;
    private final WayFinder finder;
    private final Crowd crowd;
    private final Sheet[] sheets;
    private final int[] toldWay;
    private int toldRows;
    private int latestFinding;

    public InsidePlaces() {
        house = new House();
        map = new RadioMap();
        chances = new Chances();
        finder = new WayFinder();
        crowd = new Crowd();
        sheets = new Sheet[SHEETS];
        for (int s = 0; s < SHEETS; s++) {
            sheets[s] = new Sheet();
        }
        toldWay = new int[MOST_ROWS];
        toldRows = 0;
        latestFinding = 0;
        layOut(1, 4, 4);
    }

    // ---- the building

    public int building(int floors, int w, int h) {
        if (floors < 1 || floors > MOST_FLOORS || w < 1 || w > MOST_SIDE || h < 1 || h > MOST_SIDE) {
            return BAD;
        }
        if (floors * w * h > MOST_CELLS) {
            return BAD;
        }
        layOut(floors, w, h);
        return house.cells();
    }

    public int wall(int a, int b, boolean is) {
        if (!house.hasCell(a) || !house.hasCell(b) || !house.areBeside(a, b)) {
            return BAD;
        }
        return house.putWall(Math.min(a, b), Math.max(a, b), is);
    }

    public int lift(int x, int y, boolean is) {
        if (!house.hasPlace(x, y)) {
            return BAD;
        }
        return house.putLift(x, y, is);
    }

    public int stay(int likely) {
        if (likely < 0 || likely > MOST_STAY) {
            return BAD;
        }
        return house.putStay(likely);
    }

    public int step(int from, int to) {
        if (!house.hasCell(from) || !house.hasCell(to)) {
            return BAD;
        }
        return house.likelyBetween(from, to);
    }

    public int far(int from, int to) {
        if (!house.hasCell(from) || !house.hasCell(to)) {
            return BAD;
        }
        return house.fewestSteps(from, to);
    }

    // ---- senders, the map

    public int dead(int sender, boolean is) {
        if (!isSender(sender)) {
            return BAD;
        }
        map.putDead(sender, is);
        return 1;
    }

    public int survey(int s, int row, int cell) {
        if (!isSheet(s) || !house.hasCell(cell)) {
            return BAD;
        }
        int problem = rowProblem(sheets[s], row);
        if (problem != 0) {
            return finding(problem);
        }
        return map.addRow(sheets[s], row, cell);
    }

    public int weight(int sender, int cell, int heard) {
        if (!isSender(sender) || !house.hasCell(cell) || heard < NOTHING || heard > LOUDEST) {
            return BAD;
        }
        return map.weightOf(sender, cell, heard);
    }

    public int offset(int s, int row, int cell) {
        if (!isSheet(s) || !house.hasCell(cell)) {
            return BAD_OFFSET;
        }
        int problem = rowProblem(sheets[s], row);
        if (problem != 0) {
            return finding(problem);
        }
        return map.bestOffset(sheets[s], row, cell);
    }

    // ---- shares

    public int alike() {
        chances.makeAlike(house.cells());
        return chances.shareOf(house.cells() - 1);
    }

    public int known(int cell) {
        if (!house.hasCell(cell)) {
            return BAD;
        }
        chances.makeKnown(cell);
        return 1;
    }

    public int lead(int n) {
        if (n < 1 || n > MOST_STEPS) {
            return BAD;
        }
        for (int i = 0; i < n; i++) {
            chances.leadOneStep(house);
        }
        return chances.cellsWithShare();
    }

    public int hear(int s, int row, int offset) {
        if (!isSheet(s) || offset < -MOST_OFFSET || offset > MOST_OFFSET) {
            return BAD;
        }
        int problem = rowProblem(sheets[s], row);
        if (problem != 0) {
            return finding(problem);
        }
        return chances.hearRow(map, sheets[s], row, offset) ? chances.cellsWithShare() : NOT;
    }

    public int share(int cell) {
        return house.hasCell(cell) ? chances.shareOf(cell) : BAD;
    }

    public int likeliest() {
        return chances.greatestCell();
    }

    public int within(int floor, int x0, int x1, int y0, int y1) {
        if (!house.hasArea(floor, x0, x1, y0, y1)) {
            return BAD;
        }
        int sum = 0;
        for (int y = y0; y <= y1; y++) {
            for (int x = x0; x <= x1; x++) {
                sum += chances.shareOf(house.cellAt(floor, x, y));
            }
        }
        return sum;
    }

    public int sure(int most) {
        if (most < 0 || most > WHOLE) {
            return BAD;
        }
        return chances.fewestCellsWith(most);
    }

    // ---- ways

    public int best(int s) {
        if (!isSheet(s)) {
            return BAD;
        }
        int score = bestScore(sheets[s]);
        if (score >= 0) {
            tellWay(sheets[s].rows());
        }
        return score;
    }

    public int way(int i) {
        return i >= 0 && i < toldRows ? toldWay[i] : BAD;
    }

    public int learn(int s) {
        if (!isSheet(s)) {
            return BAD;
        }
        Sheet sheet = sheets[s];
        int score = bestScore(sheet);
        if (score < 0) {
            return score;
        }
        tellWay(sheet.rows());
        for (int row = 0; row < toldRows; row++) {
            map.addRow(sheet, row, toldWay[row]);
        }
        return toldRows;
    }

    public int moved(int s) {
        if (!isSheet(s)) {
            return BAD;
        }
        Sheet sheet = sheets[s];
        int score = bestScore(sheet);
        if (score < 0) {
            return score;
        }
        int bits = 0;
        for (int sender = 0; sender < SENDERS; sender++) {
            if (!map.isDead(sender) && isMoved(sheet, sender)) {
                bits |= 1 << sender;
            }
        }
        return bits;
    }

    // ---- walkers

    public int put(int walker, int cell) {
        if (walker < 0 || walker >= WALKERS || (cell != NONE && !house.hasCell(cell))) {
            return BAD;
        }
        return crowd.move(walker, cell);
    }

    public int least(int n) {
        if (n < 1 || n > MOST_LEAST) {
            return BAD;
        }
        return crowd.putLeast(n);
    }

    public int give(int floor, int x0, int x1, int y0, int y1) {
        if (!house.hasArea(floor, x0, x1, y0, y1)) {
            return BAD;
        }
        return crowd.giveAway(new Area(floor, x0, x1, y0, y1), house);
    }

    // ---- sheets

    public int sheet(int s, int form, int n) {
        if (!isSheet(s) || !isForm(form) || n > MOST_ITEMS) {
            return BAD;
        }
        if (n < 0) {
            return finding(SIZE);
        }
        sheets[s].renew(form, n);
        return n;
    }

    public int lose(int s) {
        if (!isSheet(s)) {
            return BAD;
        }
        if (sheets[s].lost) {
            return finding(NULL);
        }
        return sheets[s].drop();
    }

    public int lay(int s, int form, int i, int v) {
        if (!isSheet(s) || !isForm(form)) {
            return BAD;
        }
        int problem = itemProblem(sheets[s], form, i);
        if (problem != 0) {
            return finding(problem);
        }
        sheets[s].store(i, v);
        return 1;
    }

    public int get(int s, int form, int i) {
        if (!isSheet(s) || !isForm(form)) {
            return LEAST_INT;
        }
        int problem = itemProblem(sheets[s], form, i);
        if (problem != 0) {
            finding(problem);
            return LEAST_INT;
        }
        return sheets[s].items[i];
    }

    public int copy(int s, int i, int t, int j, int n) {
        if (!isSheet(s) || !isSheet(t)) {
            return BAD;
        }
        Sheet from = sheets[s];
        Sheet to = sheets[t];
        if (from.lost || to.lost) {
            return finding(NULL);
        }
        if (from.form != to.form) {
            return finding(STORE);
        }
        if (!from.hasItems(i, n) || !to.hasItems(j, n)) {
            return finding(INDEX);
        }
        System.arraycopy(from.items, i, to.items, j, n);
        return 1;
    }

    public int count(int what) {
        switch (what) {
            case 0: return house.floors;
            case 1: return house.wide;
            case 2: return house.high;
            case 3: return house.walls;
            case 4: return house.lifts;
            case 5: return crowd.given;
            case 6: return latestFinding;
            case 7: return house.staying;
            case 8: return crowd.fewest;
            case 9: return map.deadBits;
            case 10: return crowd.somewhere();
            default: return BAD;
        }
    }

    public long digest() {
        long h = 17;
        for (int what = 0; what <= 10; what++) {
            if (what != 6) {
                h = 31 * h + count(what);
            }
        }
        int cells = house.cells();
        for (int cell = 0; cell < cells; cell++) {
            h = 31 * h + chances.shareOf(cell);
        }
        for (int sender = 0; sender < SENDERS; sender++) {
            for (int cell = 0; cell < cells; cell++) {
                h = 31 * h + map.weightOfAll(sender, cell);
            }
        }
        return h;
    }

    // ---- what several calls share

    private void layOut(int floors, int w, int h) {
        house.raise(floors, w, h);
        map.clear();
        chances.makeAlike(house.cells());
        crowd.scatter();
    }

    private static boolean isSender(int sender) {
        return sender >= 0 && sender < SENDERS;
    }

    private static boolean isSheet(int s) {
        return s >= 0 && s < SHEETS;
    }

    private static boolean isForm(int form) {
        return form >= 0 && form < FORMS;
    }

    private int finding(int number) {
        latestFinding = number;
        return -10 - number;
    }

    /** The number of the FINDING that asking for a ROW meets; 0: there is the ROW. */
    private static int rowProblem(Sheet sheet, int row) {
        if (sheet.lost) {
            return NULL;
        }
        return row >= 0 && row < sheet.rows() ? 0 : INDEX;
    }

    /** The number of the FINDING that asking for an item meets; 0: there is the item. */
    private static int itemProblem(Sheet sheet, int form, int i) {
        if (sheet.lost) {
            return NULL;
        }
        if (sheet.form != form) {
            return CAST;
        }
        return i >= 0 && i < sheet.size ? 0 : INDEX;
    }

    /** The SCORE of THE BEST WAY of a SHEET, its CELLS then in the finder; or the refusal. */
    private int bestScore(Sheet sheet) {
        if (sheet.lost) {
            return finding(NULL);
        }
        int score = finder.findWay(house, map, sheet, NONE);
        return score == NO_WAY ? NOT : score;
    }

    private void tellWay(int rows) {
        toldRows = Math.min(rows, MOST_ROWS);
        System.arraycopy(finder.way, 0, toldWay, 0, toldRows);
    }

    private boolean isMoved(Sheet sheet, int sender) {
        if (finder.findWay(house, map, sheet, sender) == NO_WAY) {
            return false;
        }
        int rows = 0;
        int unknown = 0;
        for (int row = 0; row < sheet.rows(); row++) {
            int heard = sheet.heardOf(row, sender);
            if (heard != MISSING) {
                rows++;
                if (map.weightOf(sender, finder.way[row], heard) == 1) {
                    unknown++;
                }
            }
        }
        return 2 * unknown > rows;
    }

    /** Some CELLS of one FLOOR; there is one only where the building has all of them. */
    private static final class Area {
        final int floor;
        final int x0;
        final int x1;
        final int y0;
        final int y1;

        Area(int floor, int x0, int x1, int y0, int y1) {
            this.floor = floor;
            this.x0 = x0;
            this.x1 = x1;
            this.y0 = y0;
            this.y1 = y1;
        }

        int extent() {
            return (x1 - x0 + 1) * (y1 - y0 + 1);
        }

        boolean contains(int atFloor, int x, int y) {
            return atFloor == floor && x >= x0 && x <= x1 && y >= y0 && y <= y1;
        }

        /** How many CELLS one of both alone has. */
        int cellsApart(Area other) {
            return extent() + other.extent() - 2 * cellsInBoth(other);
        }

        private int cellsInBoth(Area other) {
            int w = Math.min(x1, other.x1) - Math.max(x0, other.x0) + 1;
            int h = Math.min(y1, other.y1) - Math.max(y0, other.y0) + 1;
            return floor == other.floor && w > 0 && h > 0 ? w * h : 0;
        }
    }

    /** THE BUILDING: its CELLS, WALLS and LIFTS, and the STEPS that they leave. */
    private static final class House {
        int floors = 1;
        int wide = 1;
        int high = 1;
        int walls = 0;
        int lifts = 0;
        int staying = 1;
        private final boolean[] wallRight = new boolean[MOST_CELLS];
        private final boolean[] wallBelow = new boolean[MOST_CELLS];
        private final boolean[] liftAt = new boolean[MOST_PLACES];
        // Where the STEPS of each CELL lead, DIRECTIONS for each CELL, the lesser CELLS first.
        private final int[] targets = new int[MOST_CELLS * DIRECTIONS];
        private final int[] distance = new int[MOST_CELLS];
        private final int[] queue = new int[MOST_CELLS];

        void raise(int floors, int w, int h) {
            this.floors = floors;
            wide = w;
            high = h;
            walls = 0;
            lifts = 0;
            for (int cell = 0; cell < MOST_CELLS; cell++) {
                wallRight[cell] = false;
                wallBelow[cell] = false;
            }
            for (int place = 0; place < MOST_PLACES; place++) {
                liftAt[place] = false;
            }
            chartSteps();
        }

        int cells() {
            return floors * wide * high;
        }

        boolean hasCell(int cell) {
            return cell >= 0 && cell < cells();
        }

        boolean hasPlace(int x, int y) {
            return x >= 0 && x < wide && y >= 0 && y < high;
        }

        boolean hasArea(int floor, int x0, int x1, int y0, int y1) {
            return floor >= 0 && floor < floors && x0 <= x1 && y0 <= y1
                && hasPlace(x0, y0) && hasPlace(x1, y1);
        }

        int cellAt(int floor, int x, int y) {
            return (floor * high + y) * wide + x;
        }

        int xOf(int cell) {
            return cell % wide;
        }

        int yOf(int cell) {
            return cell / wide % high;
        }

        int floorOf(int cell) {
            return cell / (wide * high);
        }

        boolean areBeside(int a, int b) {
            int apart = Math.abs(xOf(a) - xOf(b)) + Math.abs(yOf(a) - yOf(b));
            return floorOf(a) == floorOf(b) && apart == 1;
        }

        /** A WALL between two CELLS beside each other, the lesser told first. */
        int putWall(int first, int second, boolean is) {
            boolean[] between = yOf(first) == yOf(second) ? wallRight : wallBelow;
            if (between[first] == is) {
                return 0;
            }
            between[first] = is;
            walls += is ? 1 : -1;
            chartSteps();
            return 1;
        }

        int putLift(int x, int y, boolean is) {
            int place = y * wide + x;
            if (liftAt[place] == is) {
                return 0;
            }
            liftAt[place] = is;
            lifts += is ? 1 : -1;
            chartSteps();
            return 1;
        }

        int putStay(int likely) {
            int before = staying;
            staying = likely;
            chartSteps();
            return before;
        }

        private void chartSteps() {
            for (int cell = 0; cell < cells(); cell++) {
                chartStepsFrom(cell, cell * DIRECTIONS);
            }
        }

        private void chartStepsFrom(int cell, int at) {
            int x = xOf(cell);
            int y = yOf(cell);
            int floor = floorOf(cell);
            boolean atLift = liftAt[y * wide + x];
            targets[at] = atLift && floor > 0 ? cell - wide * high : NONE;
            targets[at + 1] = y > 0 && !wallBelow[cell - wide] ? cell - wide : NONE;
            targets[at + 2] = x > 0 && !wallRight[cell - 1] ? cell - 1 : NONE;
            targets[at + STAYING] = staying > 0 ? cell : NONE;
            targets[at + 4] = x < wide - 1 && !wallRight[cell] ? cell + 1 : NONE;
            targets[at + 5] = y < high - 1 && !wallBelow[cell] ? cell + wide : NONE;
            targets[at + 6] = atLift && floor < floors - 1 ? cell + wide * high : NONE;
        }

        /** Where the STEP in a direction leads; NONE: there is none. */
        int targetOf(int cell, int direction) {
            return targets[cell * DIRECTIONS + direction];
        }

        int likelyTo(int direction) {
            if (direction == STAYING) {
                return staying;
            }
            return direction == 0 || direction == DIRECTIONS - 1 ? 1 : 2;
        }

        int likelyOfAll(int cell) {
            int sum = 0;
            for (int direction = 0; direction < DIRECTIONS; direction++) {
                if (targetOf(cell, direction) != NONE) {
                    sum += likelyTo(direction);
                }
            }
            return sum;
        }

        int likelyBetween(int from, int to) {
            for (int direction = 0; direction < DIRECTIONS; direction++) {
                if (targetOf(from, direction) == to) {
                    return likelyTo(direction);
                }
            }
            return 0;
        }

        int fewestSteps(int from, int to) {
            Arrays.fill(distance, NONE);
            distance[from] = 0;
            queue[0] = from;
            int end = 1;
            for (int i = 0; i < end && i < MOST_CELLS; i++) {
                int cell = queue[i];
                for (int direction = 0; direction < DIRECTIONS; direction++) {
                    int next = targetOf(cell, direction);
                    if (hasCell(next) && distance[next] == NONE && end < MOST_CELLS) {
                        distance[next] = distance[cell] + 1;
                        queue[end] = next;
                        end++;
                    }
                }
            }
            return distance[to];
        }
    }

    /** A SHEET: LOST, or a row of items; an item is held as its FORM leaves it. */
    private static final class Sheet {
        boolean lost = true;
        int form = BYTES;
        int size = 0;
        final int[] items = new int[MOST_ITEMS];

        void renew(int newForm, int n) {
            lost = false;
            form = newForm;
            size = n;
            Arrays.fill(items, 0);
        }

        int drop() {
            int had = size;
            lost = true;
            size = 0;
            return had;
        }

        void store(int i, int v) {
            if (form == BYTES) {
                items[i] = (byte) v;
            } else if (form == SHORTS) {
                items[i] = (short) v;
            } else {
                items[i] = v;
            }
        }

        boolean hasItems(int from, int n) {
            return from >= 0 && n >= 0 && from <= size && n <= size - from;
        }

        int rows() {
            return size / SENDERS;
        }

        /** What was heard of a SENDER: NOTHING to LOUDEST, or MISSING. */
        int heardOf(int row, int sender) {
            int item = items[row * SENDERS + sender];
            return item >= NOTHING && item <= LOUDEST ? item : MISSING;
        }

        int heardBy(int row, int sender, int offset) {
            int heard = heardOf(row, sender);
            if (heard == MISSING || heard == NOTHING) {
                return heard;
            }
            return Math.max(0, Math.min(LOUDEST, heard - offset));
        }
    }

    /** THE MAP, and which SENDERS are DEAD. */
    private static final class RadioMap {
        int deadBits = 0;
        private final int[] counts = new int[SENDERS * MOST_CELLS * LEVELS];

        void clear() {
            Arrays.fill(counts, 0);
        }

        void putDead(int sender, boolean is) {
            deadBits = is ? deadBits | 1 << sender : deadBits & ~(1 << sender);
        }

        boolean isDead(int sender) {
            return (deadBits >> sender & 1) == 1;
        }

        private static int slotOf(int sender, int cell, int heard) {
            return (sender * MOST_CELLS + cell) * LEVELS + heard - NOTHING;
        }

        int weightOf(int sender, int cell, int heard) {
            return counts[slotOf(sender, cell, heard)] + 1;
        }

        int weightOfAll(int sender, int cell) {
            int sum = 0;
            for (int heard = NOTHING; heard <= LOUDEST; heard++) {
                sum += weightOf(sender, cell, heard);
            }
            return sum;
        }

        int greatestWeight(int sender, int heard, int cells) {
            int greatest = 1;
            for (int cell = 0; cell < cells; cell++) {
                greatest = Math.max(greatest, weightOf(sender, cell, heard));
            }
            return greatest;
        }

        /** A SURVEY; a count that is 255 stays, as counts go no higher. */
        int addRow(Sheet sheet, int row, int cell) {
            int known = 0;
            for (int sender = 0; sender < SENDERS; sender++) {
                int heard = sheet.heardOf(row, sender);
                if (heard != MISSING) {
                    known++;
                    int slot = slotOf(sender, cell, heard);
                    counts[slot] = Math.min(MOST_COUNT, counts[slot] + 1);
                }
            }
            return known;
        }

        /** All WEIGHTS of a ROW in a CELL by an OFFSET, without one SENDER (NONE: with all). */
        int rowWeight(Sheet sheet, int row, int cell, int offset, int without) {
            int sum = 0;
            for (int sender = 0; sender < SENDERS; sender++) {
                int heard = sheet.heardBy(row, sender, offset);
                if (heard != MISSING && sender != without && !isDead(sender)) {
                    sum += weightOf(sender, cell, heard);
                }
            }
            return sum;
        }

        int bestOffset(Sheet sheet, int row, int cell) {
            int bestYet = 0;
            int most = rowWeight(sheet, row, cell, 0, NONE);
            for (int amount = 1; amount <= MOST_OFFSET; amount++) {
                int below = rowWeight(sheet, row, cell, -amount, NONE);
                if (below > most) {
                    most = below;
                    bestYet = -amount;
                }
                int above = rowWeight(sheet, row, cell, amount, NONE);
                if (above > most) {
                    most = above;
                    bestYet = amount;
                }
            }
            return bestYet;
        }
    }

    /** SHARES of CELLS, and the weights from which they are MADE WHOLE. */
    private static final class Chances {
        private int cells = 0;
        private final int[] shares = new int[MOST_CELLS];
        private final long[] weights = new long[MOST_CELLS];
        private final long[] rests = new long[MOST_CELLS];

        int shareOf(int cell) {
            return shares[cell];
        }

        void makeAlike(int newCells) {
            cells = newCells;
            Arrays.fill(weights, 1L);
            makeWhole();
        }

        void makeKnown(int cell) {
            Arrays.fill(shares, 0);
            shares[cell] = WHOLE;
        }

        /** MAKING WHOLE the weights; false, and nothing changes, if all are 0. */
        private boolean makeWhole() {
            long sum = 0;
            for (int cell = 0; cell < cells; cell++) {
                sum += weights[cell];
            }
            if (sum <= 0) {
                return false;
            }
            int lacking = WHOLE;
            for (int cell = 0; cell < cells; cell++) {
                long parts = weights[cell] * WHOLE;
                shares[cell] = (int) (parts / sum);
                rests[cell] = parts % sum;
                lacking -= shares[cell];
            }
            handOut(lacking);
            return true;
        }

        /** One each to the CELLS with the greatest rests; there are more CELLS with a rest than lack. */
        private void handOut(int lacking) {
            for (int i = 0; i < lacking; i++) {
                int next = 0;
                for (int cell = 1; cell < cells; cell++) {
                    if (rests[cell] > rests[next]) {
                        next = cell;
                    }
                }
                shares[next]++;
                rests[next] = 0;
            }
        }

        void leadOneStep(House house) {
            Arrays.fill(weights, 0L);
            for (int cell = 0; cell < cells; cell++) {
                int likelyOfAll = house.likelyOfAll(cell);
                long leaving = shares[cell] * 1000L;
                if (likelyOfAll <= 0) {
                    weights[cell] += leaving;
                } else {
                    spread(house, cell, leaving, likelyOfAll);
                }
            }
            makeWhole();
        }

        private void spread(House house, int from, long leaving, int likelyOfAll) {
            for (int direction = 0; direction < DIRECTIONS; direction++) {
                int to = house.targetOf(from, direction);
                if (house.hasCell(to) && likelyOfAll > 0) {
                    weights[to] += leaving * house.likelyTo(direction) / likelyOfAll;
                }
            }
        }

        /** HEARING a ROW; false, and nothing changes, if it is LOST. */
        boolean hearRow(RadioMap map, Sheet sheet, int row, int offset) {
            Arrays.fill(weights, 1000L);
            for (int sender = 0; sender < SENDERS; sender++) {
                int heard = sheet.heardBy(row, sender, offset);
                if (heard != MISSING && !map.isDead(sender)) {
                    weighSender(map, sender, heard);
                }
            }
            for (int cell = 0; cell < cells; cell++) {
                weights[cell] *= shares[cell];
            }
            return makeWhole();
        }

        private void weighSender(RadioMap map, int sender, int heard) {
            int greatest = map.greatestWeight(sender, heard, cells);
            for (int cell = 0; cell < cells; cell++) {
                weights[cell] = weights[cell] * map.weightOf(sender, cell, heard) / greatest;
            }
        }

        int cellsWithShare() {
            int number = 0;
            for (int cell = 0; cell < cells; cell++) {
                if (shares[cell] > 0) {
                    number++;
                }
            }
            return number;
        }

        int greatestCell() {
            int greatest = 0;
            for (int cell = 1; cell < cells; cell++) {
                if (shares[cell] > shares[greatest]) {
                    greatest = cell;
                }
            }
            return greatest;
        }

        int fewestCellsWith(int most) {
            for (int cell = 0; cell < cells; cell++) {
                rests[cell] = shares[cell];
            }
            long sum = 0;
            int taken = 0;
            while (sum < most && taken < cells) {
                int next = 0;
                for (int cell = 1; cell < cells; cell++) {
                    if (rests[cell] > rests[next]) {
                        next = cell;
                    }
                }
                sum += rests[next];
                rests[next] = 0;
                taken++;
            }
            return taken;
        }
    }

    /** THE BEST WAY, found from the last ROW back to the first. */
    private static final class WayFinder {
        final int[] way = new int[MOST_ROWS];
        // The best SCORE from a ROW in a CELL to the end, MOST_CELLS for each ROW; NO_WAY: there is no way.
        private final int[] onward = new int[MOST_ROWS * MOST_CELLS];

        /** The SCORE of THE BEST WAY without one SENDER (NONE: with all), its CELLS in way; or NO_WAY. */
        int findWay(House house, RadioMap map, Sheet sheet, int without) {
            int rows = Math.min(sheet.rows(), MOST_ROWS);
            if (rows == 0) {
                return NO_WAY;
            }
            for (int row = rows - 1; row >= 0; row--) {
                boolean isLast = row == rows - 1;
                for (int cell = 0; cell < house.cells(); cell++) {
                    int after = isLast ? 0 : scoreAfter(house, row, cell, bestDirection(house, row, cell));
                    int here = map.rowWeight(sheet, row, cell, 0, without);
                    onward[row * MOST_CELLS + cell] = after == NO_WAY ? NO_WAY : here + after;
                }
            }
            int first = bestFirst(house.cells());
            if (onward[first] != NO_WAY) {
                trace(house, first, rows);
            }
            return onward[first];
        }

        private int scoreAfter(House house, int row, int cell, int direction) {
            int next = direction == NONE ? NONE : house.targetOf(cell, direction);
            if (!house.hasCell(next)) {
                return NO_WAY;
            }
            int after = onward[(row + 1) * MOST_CELLS + next];
            return after == NO_WAY ? NO_WAY : after + house.likelyTo(direction);
        }

        /** As directions lead to the lesser CELLS first, the first of like ones is the one to take. */
        private int bestDirection(House house, int row, int cell) {
            int best = NONE;
            int most = NO_WAY;
            for (int direction = 0; direction < DIRECTIONS; direction++) {
                int score = scoreAfter(house, row, cell, direction);
                if (score > most) {
                    most = score;
                    best = direction;
                }
            }
            return best;
        }

        private int bestFirst(int cells) {
            int best = 0;
            for (int cell = 1; cell < cells; cell++) {
                if (onward[cell] > onward[best]) {
                    best = cell;
                }
            }
            return best;
        }

        private void trace(House house, int first, int rows) {
            way[0] = first;
            for (int row = 1; row < rows; row++) {
                int direction = bestDirection(house, row - 1, way[row - 1]);
                way[row] = direction == NONE ? way[row - 1] : house.targetOf(way[row - 1], direction);
            }
        }
    }

    /** WALKERS, and the AREAS of which their number was GIVEN since one was last put anywhere. */
    private static final class Crowd {
        int given = 0;
        int fewest = 3;
        private final int[] cellOf = new int[WALKERS];
        private final Area[] areas = new Area[MOST_GIVEN];

        void scatter() {
            Arrays.fill(cellOf, NONE);
            given = 0;
        }

        int move(int walker, int cell) {
            int before = cellOf[walker];
            cellOf[walker] = cell;
            given = 0;
            return before;
        }

        int putLeast(int n) {
            int before = fewest;
            fewest = n;
            given = 0;
            return before;
        }

        int somewhere() {
            int number = 0;
            for (int walker = 0; walker < WALKERS; walker++) {
                if (cellOf[walker] != NONE) {
                    number++;
                }
            }
            return number;
        }

        int giveAway(Area area, House house) {
            int number = numberIn(area, house);
            if (number < fewest || fewest < 1 || isTooNear(area)) {
                return NOT;
            }
            if (!wasGiven(area)) {
                if (given >= MOST_GIVEN) {
                    return FULL;
                }
                areas[given] = area;
                given++;
            }
            return number - number % fewest;
        }

        private int numberIn(Area area, House house) {
            int number = 0;
            for (int walker = 0; walker < WALKERS; walker++) {
                int cell = cellOf[walker];
                if (house.hasCell(cell)
                    && area.contains(house.floorOf(cell), house.xOf(cell), house.yOf(cell))) {
                    number++;
                }
            }
            return number;
        }

        /** Two AREAS that part in a few CELLS would together tell of those few. */
        private boolean isTooNear(Area area) {
            for (int i = 0; i < given; i++) {
                int apart = area.cellsApart(areas[i]);
                if (apart > 0 && apart < fewest) {
                    return true;
                }
            }
            return false;
        }

        private boolean wasGiven(Area area) {
            for (int i = 0; i < given; i++) {
                if (area.cellsApart(areas[i]) == 0) {
                    return true;
                }
            }
            return false;
        }
    }
}
