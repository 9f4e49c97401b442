import java.util.Arrays;

/** Rows of readings, some of them missing; what is missing compares with nothing, itself neither. */
public final class TideHouse {
    /** What is not there, as it is told. */
    public static final int MISSING = -2147483648;

    private static final int ROWS = 8;
    private static final int FINE_ROWS = 4;
    private static final int PLACES = 12;
    private static final int GATES = 4;
    private static final int SORTS = 2;
    private static final int MOST_EIGHTHS = 8000000;

    private static final int BELOW = 0;
    private static final int NOT_ABOVE = 1;
    private static final int ABOVE = 2;
    private static final int NOT_BELOW = 3;
    private static final int SAME = 4;
    private static final int UNLIKE = 5;

    // Flat arrays, made once: an object then costs five objects in all, and a call makes none but what it throws.
    private final int[] readings;
    private final int[] levels;
    private final boolean[] open;
    private final int[] rowNotes;

    public TideHouse() {
        readings = new int[ROWS * PLACES];
        levels = new int[GATES * SORTS];
        open = new boolean[GATES];
        rowNotes = new int[ROWS];
        Arrays.fill(readings, MISSING);
        Arrays.fill(levels, MISSING);
    }

    // ---- what is told

    public boolean put(int row, int place, int eighths) throws IndexOutOfBoundsException, IllegalArgumentException {
        needRow(row);
        needPlace(place);
        needNumber(eighths);
        return store(readings, spot(row, place), eighths);
    }

    public int reading(int row, int place) throws IndexOutOfBoundsException {
        needRow(row);
        needPlace(place);
        return readings[spot(row, place)];
    }

    public boolean level(int gate, boolean rough, int eighths) throws IndexOutOfBoundsException, IllegalArgumentException {
        needGate(gate);
        needNumber(eighths);
        return store(levels, levelSpot(gate, rough), eighths);
    }

    public int copy(int from, int to) throws IndexOutOfBoundsException, IllegalArgumentException {
        needRow(from);
        needRow(to);
        needOneSort(from, to);
        for (int place = 0; place < PLACES; place++) {
            readings[spot(to, place)] = readings[spot(from, place)];
        }
        return countMissing(to);
    }

    // ---- questions to a level

    public int straight(int row, int sign, int gate) throws IndexOutOfBoundsException, IllegalArgumentException {
        needRow(row);
        needGate(gate);
        needSign(sign);
        int bound = levelFor(gate, row);
        int count = 0;
        for (int place = 0; place < PLACES; place++) {
            if (isTrue(sign, readings[spot(row, place)], bound)) {
                count++;
            }
        }
        return count;
    }

    public int turned(int row, int sign, int gate) throws IndexOutOfBoundsException, IllegalArgumentException {
        needRow(row);
        needGate(gate);
        needSign(sign);
        int bound = levelFor(gate, row);
        int count = 0;
        for (int place = 0; place < PLACES; place++) {
            if (!isTrue(sign, bound, readings[spot(row, place)])) {
                count++;
            }
        }
        return count;
    }

    public int between(int row, int low, int high) throws IndexOutOfBoundsException {
        needRow(row);
        needGate(low);
        needGate(high);
        int floor = levelFor(low, row);
        int ceiling = levelFor(high, row);
        int inside = 0;
        int outside = 0;
        // A reading can be neither inside nor outside, so neither count follows from the other.
        for (int place = 0; place < PLACES; place++) {
            int x = readings[spot(row, place)];
            if (isTrue(NOT_BELOW, x, floor) && isTrue(NOT_ABOVE, x, ceiling)) {
                inside++;
            }
            if (isTrue(BELOW, x, floor) || isTrue(ABOVE, x, ceiling)) {
                outside++;
            }
        }
        return 16 * inside + outside;
    }

    public int must(int row, int place, int sign, int gate) throws IndexOutOfBoundsException, IllegalArgumentException, IllegalStateException {
        needRow(row);
        needPlace(place);
        needGate(gate);
        needSign(sign);
        int x = readings[spot(row, place)];
        if (!isTrue(sign, x, levelFor(gate, row))) {
            throw new IllegalStateException("the question is not true");
        }
        return x;
    }

    public int watch(int gate, int row, boolean trusting) throws IndexOutOfBoundsException {
        needGate(gate);
        needRow(row);
        int bound = levelFor(gate, row);
        int changes = 0;
        for (int place = 0; place < PLACES; place++) {
            boolean next = opens(readings[spot(row, place)], bound, trusting);
            if (next != open[gate]) {
                open[gate] = next;
                changes++;
            }
        }
        return changes;
    }

    public boolean isOpen(int gate) throws IndexOutOfBoundsException {
        needGate(gate);
        return open[gate];
    }

    // ---- questions within a row

    public int climb(int row, int place, int sign) throws IndexOutOfBoundsException, IllegalArgumentException {
        needRow(row);
        needPlace(place);
        needSign(sign);
        return walk(row, place, sign, true);
    }

    public int drift(int row, int place, int sign) throws IndexOutOfBoundsException, IllegalArgumentException {
        needRow(row);
        needPlace(place);
        needSign(sign);
        return walk(row, place, sign, false);
    }

    public int pick(int row, int sign) throws IndexOutOfBoundsException, IllegalArgumentException {
        needRow(row);
        needSign(sign);
        int held = 0;
        for (int place = 1; place < PLACES; place++) {
            if (isTrue(sign, readings[spot(row, place)], readings[spot(row, held)])) {
                held = place;
            }
        }
        return held;
    }

    public int keep(int row, int sign) throws IndexOutOfBoundsException, IllegalArgumentException {
        needRow(row);
        needSign(sign);
        int bits = 0;
        for (int place = 0; place < PLACES - 1; place++) {
            if (isTrueOfNext(row, place, sign)) {
                bits |= 1 << place;
            }
        }
        rowNotes[row] = bits;
        return Integer.bitCount(bits);
    }

    public int notes(int row) throws IndexOutOfBoundsException {
        needRow(row);
        return rowNotes[row];
    }

    public int gaps(int row) throws IndexOutOfBoundsException {
        needRow(row);
        return countMissing(row);
    }

    public int settle(int row, int sign) throws IndexOutOfBoundsException, IllegalArgumentException {
        needRow(row);
        needSign(sign);
        int changes = 0;
        for (int place = 1; place < PLACES; place++) {
            changes += moveLeft(row, place, sign);
        }
        return changes;
    }

    // ---- questions to another row

    public int meet(int row, int other, int sign) throws IndexOutOfBoundsException, IllegalArgumentException {
        needRow(row);
        needRow(other);
        needSign(sign);
        needOneSort(row, other);
        int count = 0;
        for (int place = 0; place < PLACES; place++) {
            if (isTrue(sign, readings[spot(row, place)], readings[spot(other, place)])) {
                count++;
            }
        }
        return count;
    }

    public boolean alike(int row, int other) throws IndexOutOfBoundsException, IllegalArgumentException {
        needRow(row);
        needRow(other);
        needOneSort(row, other);
        // Told alike is no QUESTION: here MISSING does match MISSING, so plain == is right.
        for (int place = 0; place < PLACES; place++) {
            if (readings[spot(row, place)] != readings[spot(other, place)]) {
                return false;
            }
        }
        return true;
    }

    public int merge(int row, int other, int third, int sign) throws IndexOutOfBoundsException, IllegalArgumentException {
        needRow(row);
        needRow(other);
        needRow(third);
        needSign(sign);
        needOneSort(row, other);
        needOneSort(row, third);
        needApart(third, row);
        needApart(third, other);
        int taken = 0;
        // Before PLACE k is filled k readings are taken in all, so neither row can run out.
        for (int place = 0; place < PLACES; place++) {
            int first = readings[spot(row, taken)];
            int second = readings[spot(other, place - taken)];
            boolean ofFirst = isTrue(sign, first, second);
            readings[spot(third, place)] = ofFirst ? first : second;
            if (ofFirst) {
                taken++;
            }
        }
        return taken;
    }

    // ---- the question itself

    private static boolean isTrue(int sign, int x, int y) {
        if (x == MISSING || y == MISSING) {
            return sign == UNLIKE;
        }
        switch (sign) {
            case BELOW:
                return x < y;
            case NOT_ABOVE:
                return x <= y;
            case ABOVE:
                return x > y;
            case NOT_BELOW:
                return x >= y;
            case SAME:
                return x == y;
            default:
                return x != y;
        }
    }

    // ---- steps that several calls share

    private boolean isTrueOfNext(int row, int place, int sign) {
        return isTrue(sign, readings[spot(row, place)], readings[spot(row, place + 1)]);
    }

    private int walk(int row, int start, int sign, boolean wanted) {
        int place = start;
        while (place < PLACES - 1 && isTrueOfNext(row, place, sign) == wanted) {
            place++;
        }
        return place;
    }

    private int moveLeft(int row, int start, int sign) {
        int place = start;
        while (place > 0 && isTrue(sign, readings[spot(row, place)], readings[spot(row, place - 1)])) {
            int moving = readings[spot(row, place)];
            readings[spot(row, place)] = readings[spot(row, place - 1)];
            readings[spot(row, place - 1)] = moving;
            place--;
        }
        return start - place;
    }

    private int countMissing(int row) {
        int count = 0;
        for (int place = 0; place < PLACES; place++) {
            int x = readings[spot(row, place)];
            if (isTrue(UNLIKE, x, x)) {
                count++;
            }
        }
        return count;
    }

    // The two ways differ where the reading or the level is MISSING: neither question is TRUE then.
    private static boolean opens(int x, int bound, boolean trusting) {
        return trusting ? !isTrue(BELOW, x, bound) : isTrue(NOT_BELOW, x, bound);
    }

    private static boolean store(int[] cells, int index, int eighths) {
        boolean another = cells[index] != eighths;
        cells[index] = eighths;
        return another;
    }

    // ---- where things lie

    private static int spot(int row, int place) {
        return row * PLACES + place;
    }

    private static int levelSpot(int gate, boolean rough) {
        return gate * SORTS + (rough ? 1 : 0);
    }

    private static boolean isRough(int row) {
        return row >= FINE_ROWS;
    }

    private int levelFor(int gate, int row) {
        return levels[levelSpot(gate, isRough(row))];
    }

    // ---- what a call refuses

    private static void needRow(int row) {
        if (row < 0 || row >= ROWS) {
            throw new IndexOutOfBoundsException("no such row");
        }
    }

    private static void needPlace(int place) {
        if (place < 0 || place >= PLACES) {
            throw new IndexOutOfBoundsException("no such place");
        }
    }

    private static void needGate(int gate) {
        if (gate < 0 || gate >= GATES) {
            throw new IndexOutOfBoundsException("no such gate");
        }
    }

    private static void needSign(int sign) {
        if (sign < BELOW || sign > UNLIKE) {
            throw new IllegalArgumentException("no such sign");
        }
    }

    private static void needNumber(int eighths) {
        if (eighths != MISSING && (eighths < -MOST_EIGHTHS || eighths > MOST_EIGHTHS)) {
            throw new IllegalArgumentException("the number is beyond");
        }
    }

    private static void needOneSort(int row, int other) {
        if (isRough(row) != isRough(other)) {
            throw new IllegalArgumentException("the rows are not of one sort");
        }
    }

    private static void needApart(int third, int row) {
        if (third == row) {
            throw new IllegalArgumentException("the third row is the first or the second");
        }
    }
}
