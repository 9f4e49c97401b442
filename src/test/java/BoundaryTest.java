import java.util.Arrays;

/** Each sentence of promises 1 to 21 that names a boundary case, by its own words, with a test of its own. */
public final class BoundaryTest {
    private static final int NONE = TideHouse.MISSING;
    private static final int LEAST = -8000000;
    private static final int GREATEST = 8000000;
    private static final String NOTHING = "nothing";
    private static final String INDEX = "IndexOutOfBoundsException";
    private static final String ARGUMENT = "IllegalArgumentException";
    private static final String STATE = "IllegalStateException";
    private static final int[] EDGE_ROWS = {0, 3, 4, 7};
    private static final int[] RISING = {LEAST, -9, -8, -1, 0, 1, 2, 7, 8, 9, 10, GREATEST};
    private static final int[] FALLING = {GREATEST, 10, 9, 8, 7, 2, 1, 0, -1, -8, -9, LEAST};
    private static final int[] UP_AND_DOWN = {1, 0, 1, 0, 1, 0, 1, 0, 1, 0, 1, 0};

    private static int wrong = 0;
    private static String sentence = "";

    private interface Call {
        Object on(TideHouse house);
    }

    private static void due(String what, Object got, Object want) {
        if (!got.equals(want)) {
            wrong++;
            System.out.println(sentence + ": " + what + " gave " + got + ", due is " + want);
        }
    }

    private static String thrown(TideHouse house, Call call) {
        try {
            call.on(house);
            return NOTHING;
        } catch (RuntimeException e) {
            return e.getClass().getSimpleName();
        }
    }

    private static void test(int promise, String words, Runnable body) {
        sentence = "promise " + promise + ", \"" + words + "\"";
        try {
            body.run();
        } catch (RuntimeException e) {
            wrong++;
            System.out.println(sentence + ": a call that is due to answer threw " + e);
        }
    }

    private static void fill(TideHouse house, int row, int... numbers) {
        for (int place = 0; place < 12; place++) {
            house.put(row, place, numbers[place]);
        }
    }

    private static TideHouse with(int row, int... numbers) {
        TideHouse house = new TideHouse();
        fill(house, row, numbers);
        return house;
    }

    private static int[] all(int number) {
        int[] numbers = new int[12];
        Arrays.fill(numbers, number);
        return numbers;
    }

    private static int[] allBut(int number, int place, int exception) {
        int[] numbers = all(number);
        numbers[place] = exception;
        return numbers;
    }

    private static int[] told(TideHouse house, int row) {
        int[] numbers = new int[12];
        for (int place = 0; place < 12; place++) {
            numbers[place] = house.reading(row, place);
        }
        return numbers;
    }

    private static void dueRow(String what, TideHouse house, int row, int... numbers) {
        due(what + ", row " + row, Arrays.toString(told(house, row)), Arrays.toString(numbers));
    }

    // Full rows beside an edge row show a step over that row's first or last place.
    private static TideHouse between(int row, int before, int after, int... numbers) {
        TideHouse house = with(row, numbers);
        if (row > 0) {
            fill(house, row - 1, all(before));
        }
        if (row < 7) {
            fill(house, row + 1, all(after));
        }
        return house;
    }

    // ---- 1: a new object

    private static void allIsMissing() {
        TideHouse house = new TideHouse();
        for (int row = 0; row < 8; row++) {
            dueRow("new", house, row, all(NONE));
            due("notes", house.notes(row), 0);
        }
        for (int gate = 0; gate < 4; gate++) {
            due("fine level " + gate, house.level(gate, false, NONE), false);
            due("rough level " + gate, house.level(gate, true, NONE), false);
        }
    }

    private static void allGatesAreShut() {
        TideHouse house = new TideHouse();
        for (int gate = 0; gate < 4; gate++) {
            due("isOpen " + gate, house.isOpen(gate), false);
        }
    }

    private static void newBesideOld() {
        TideHouse old = with(0, RISING);
        old.level(0, false, 1);
        old.keep(0, 0);
        old.watch(0, 0, true);
        TideHouse house = new TideHouse();
        dueRow("new", house, 0, all(NONE));
        due("notes", house.notes(0), 0);
        due("isOpen", house.isOpen(0), false);
        due("level", house.level(0, false, NONE), false);
        dueRow("old", old, 0, RISING);
        due("old level", old.level(0, false, 1), false);
    }

    // ---- 2 and 3: put, reading

    private static void putAtEdges() {
        for (int row : EDGE_ROWS) {
            for (int place = 0; place < 12; place += 11) {
                TideHouse house = new TideHouse();
                due("put " + row + " " + place, house.put(row, place, 5), true);
                due("reading " + row + " " + place, house.reading(row, place), 5);
                for (int other = 0; other < 8; other++) {
                    dueRow("put " + row + " " + place, house, other, other == row ? allBut(NONE, place, 5) : all(NONE));
                }
            }
        }
    }

    private static void putNumbersAtEdges() {
        TideHouse house = new TideHouse();
        int[] steps = {LEAST, GREATEST, LEAST + 1, GREATEST - 1, 0, -1, 1, NONE, LEAST, NONE, GREATEST};
        for (int number : steps) {
            due("put " + number, house.put(7, 11, number), true);
            due("put " + number + " again", house.put(7, 11, number), false);
            due("reading", house.reading(7, 11), number);
        }
    }

    private static void putMissingForMissing() {
        TideHouse house = new TideHouse();
        due("at first", house.put(0, 0, NONE), false);
        due("once more", house.put(0, 0, NONE), false);
        due("0 in place of MISSING", house.put(0, 0, 0), true);
        due("MISSING in place of 0", house.put(0, 0, NONE), true);
        due("in place of what became MISSING", house.put(0, 0, NONE), false);
        due("at the last place", house.put(7, 11, NONE), false);
    }

    private static void putRefused() {
        int[] beyond = {LEAST - 1, GREATEST + 1, NONE + 1, Integer.MAX_VALUE};
        for (int number : beyond) {
            TideHouse house = with(7, RISING);
            due("put " + number, thrown(house, h -> h.put(7, 11, number)), ARGUMENT);
            dueRow("behind it", house, 7, RISING);
            TideHouse empty = new TideHouse();
            due("put " + number, thrown(empty, h -> h.put(0, 0, number)), ARGUMENT);
            due("still MISSING", empty.put(0, 0, NONE), false);
        }
    }

    // Place 12 of a row must not be place 0 of the next one, nor place -1 the one before's last.
    private static void placeIsNoOtherRows() {
        TideHouse house = with(3, RISING);
        fill(house, 4, FALLING);
        due("put at 12", thrown(house, h -> h.put(3, 12, 5)), INDEX);
        due("put at -1", thrown(house, h -> h.put(4, -1, 5)), INDEX);
        due("reading at 12", thrown(house, h -> h.reading(3, 12)), INDEX);
        due("reading at -1", thrown(house, h -> h.reading(4, -1)), INDEX);
        due("put at -12 of a row below", thrown(house, h -> h.put(5, -12, 5)), INDEX);
        dueRow("behind it", house, 3, RISING);
        dueRow("behind it", house, 4, FALLING);
    }

    private static void readingChangesNothing() {
        TideHouse house = with(0, RISING);
        due("first", house.reading(0, 0), LEAST);
        due("last", house.reading(0, 11), GREATEST);
        due("missing", house.reading(7, 11), NONE);
        due("missing", house.reading(7, 0), NONE);
        dueRow("behind it", house, 0, RISING);
    }

    // ---- 4: level

    private static void levelAtEdges() {
        for (int gate = 0; gate < 4; gate++) {
            for (int rough = 0; rough < 2; rough++) {
                TideHouse house = new TideHouse();
                due("level", house.level(gate, rough == 1, 7), true);
                for (int other = 0; other < 8; other++) {
                    boolean itself = other == 2 * gate + rough;
                    due("level " + other + " behind level " + (2 * gate + rough), house.level(other / 2, other % 2 == 1, NONE), itself);
                }
            }
        }
    }

    private static void levelNumbersAtEdges() {
        TideHouse house = new TideHouse();
        for (int number : new int[] {LEAST, GREATEST, LEAST + 1, GREATEST - 1, 0, 1, -1, NONE, GREATEST, NONE}) {
            for (int k = 0; k < 4; k++) {
                int gate = k / 2 * 3;
                boolean rough = k % 2 == 1;
                due("level " + number, house.level(gate, rough, number), true);
                due("level " + number + " again", house.level(gate, rough, number), false);
            }
        }
    }

    private static void levelMissingForMissing() {
        TideHouse house = new TideHouse();
        due("at first", house.level(3, true, NONE), false);
        due("0 in place of MISSING", house.level(3, true, 0), true);
        due("MISSING in place of 0", house.level(3, true, NONE), true);
        due("once more", house.level(3, true, NONE), false);
    }

    private static void levelRefused() {
        for (int number : new int[] {LEAST - 1, GREATEST + 1, NONE + 1, Integer.MAX_VALUE}) {
            TideHouse house = new TideHouse();
            house.level(0, false, 3);
            due("fine " + number, thrown(house, h -> h.level(0, false, number)), ARGUMENT);
            due("rough " + number, thrown(house, h -> h.level(0, true, number)), ARGUMENT);
            due("fine level stays", house.level(0, false, 3), false);
            due("rough level stays", house.level(0, true, NONE), false);
        }
    }

    private static void levelMovesNoGate() {
        TideHouse house = with(0, RISING);
        house.watch(3, 0, true);
        house.level(3, false, GREATEST);
        house.level(0, false, LEAST);
        due("open stays open", house.isOpen(3), true);
        due("shut stays shut", house.isOpen(0), false);
    }

    // ---- 5: copy

    private static void copyFromEdgeToEdge() {
        int[][] pairs = {{0, 3}, {3, 0}, {4, 7}, {7, 4}};
        for (int[] pair : pairs) {
            TideHouse house = new TideHouse();
            for (int row = 0; row < 8; row++) {
                fill(house, row, all(row));
            }
            fill(house, pair[0], RISING);
            due("copy " + pair[0] + " to " + pair[1], house.copy(pair[0], pair[1]), 0);
            for (int row = 0; row < 8; row++) {
                dueRow("behind it", house, row, row == pair[0] || row == pair[1] ? RISING : all(row));
            }
        }
    }

    private static void copyAllMissing() {
        TideHouse house = with(3, RISING);
        due("all missing", house.copy(0, 3), 12);
        dueRow("to", house, 3, all(NONE));
        due("all missing onto all missing", house.copy(1, 2), 12);
    }

    private static void copyNoneMissing() {
        TideHouse house = with(4, FALLING);
        due("none missing", house.copy(4, 7), 0);
        dueRow("to", house, 7, FALLING);
        dueRow("from", house, 4, FALLING);
    }

    private static void copyCountsWhatCame() {
        TideHouse house = with(0, allBut(5, 11, NONE));
        fill(house, 1, allBut(NONE, 0, 5));
        due("one missing, onto eleven", house.copy(0, 1), 1);
        due("onto one of another row", house.copy(2, 0), 12);
    }

    private static void copyOfItself() {
        for (int row : EDGE_ROWS) {
            TideHouse house = with(row, allBut(5, 0, NONE));
            house.keep(row, 4);
            due("itself", house.copy(row, row), 1);
            dueRow("itself", house, row, allBut(5, 0, NONE));
            due("notes", house.notes(row), 2046);
            due("full", with(row, RISING).copy(row, row), 0);
            due("all missing", new TideHouse().copy(row, row), 12);
        }
    }

    private static void copyOfTwoSorts() {
        int[][] pairs = {{3, 4}, {4, 3}, {0, 4}, {4, 0}, {0, 7}, {7, 0}, {3, 7}, {7, 3}};
        for (int[] pair : pairs) {
            TideHouse house = with(pair[0], RISING);
            fill(house, pair[1], FALLING);
            due("copy " + pair[0] + " to " + pair[1], thrown(house, h -> h.copy(pair[0], pair[1])), ARGUMENT);
            dueRow("behind it", house, pair[0], RISING);
            dueRow("behind it", house, pair[1], FALLING);
        }
    }

    // ---- 6 and 7: straight, turned

    private static void straightIs(String what, TideHouse house, int row, int... counts) {
        for (int sign = 0; sign < 6; sign++) {
            due(what + ", row " + row + ", straight, sign " + sign, house.straight(row, sign, 3), counts[sign]);
        }
    }

    private static void turnedIs(String what, TideHouse house, int row, int... counts) {
        for (int sign = 0; sign < 6; sign++) {
            due(what + ", row " + row + ", turned, sign " + sign, house.turned(row, sign, 3), counts[sign]);
        }
    }

    private static TideHouse withLevel(int row, int number, int... numbers) {
        TideHouse house = between(row, number, number, numbers);
        house.level(3, row > 3, number);
        return house;
    }

    private static void straightOfMissing() {
        for (int row : EDGE_ROWS) {
            straightIs("row missing", withLevel(row, 0, all(NONE)), row, 0, 0, 0, 0, 0, 12);
            straightIs("level missing", with(row, RISING), row, 0, 0, 0, 0, 0, 12);
            straightIs("both missing", new TideHouse(), row, 0, 0, 0, 0, 0, 12);
            straightIs("one is there, at the end", withLevel(row, 7, allBut(NONE, 11, 7)), row, 0, 1, 0, 1, 1, 11);
            straightIs("one is missing, at the start", withLevel(row, 7, allBut(7, 0, NONE)), row, 0, 11, 0, 11, 11, 1);
        }
    }

    private static void straightOfFull() {
        for (int row : EDGE_ROWS) {
            straightIs("least level", withLevel(row, LEAST, RISING), row, 0, 1, 11, 12, 1, 11);
            straightIs("greatest level", withLevel(row, GREATEST, RISING), row, 11, 12, 0, 1, 1, 11);
            straightIs("all the same", withLevel(row, GREATEST, all(GREATEST)), row, 0, 12, 0, 12, 12, 0);
            straightIs("all below", withLevel(row, GREATEST, all(GREATEST - 1)), row, 12, 12, 0, 0, 0, 12);
            straightIs("all above", withLevel(row, LEAST, all(LEAST + 1)), row, 0, 0, 12, 12, 0, 12);
        }
    }

    private static void turnedOfMissing() {
        for (int row : EDGE_ROWS) {
            turnedIs("row missing", withLevel(row, 0, all(NONE)), row, 12, 12, 12, 12, 12, 0);
            turnedIs("level missing", with(row, RISING), row, 12, 12, 12, 12, 12, 0);
            turnedIs("both missing", new TideHouse(), row, 12, 12, 12, 12, 12, 0);
            turnedIs("one is there, at the end", withLevel(row, 7, allBut(NONE, 11, 7)), row, 12, 11, 12, 11, 11, 1);
            turnedIs("one is missing, at the start", withLevel(row, 7, allBut(7, 0, NONE)), row, 12, 1, 12, 1, 1, 11);
        }
    }

    private static void turnedOfFull() {
        for (int row : EDGE_ROWS) {
            turnedIs("least level", withLevel(row, LEAST, RISING), row, 1, 0, 12, 11, 11, 1);
            turnedIs("greatest level", withLevel(row, GREATEST, RISING), row, 12, 11, 1, 0, 11, 1);
            turnedIs("all the same", withLevel(row, GREATEST, all(GREATEST)), row, 12, 0, 12, 0, 0, 12);
            turnedIs("all below", withLevel(row, GREATEST, all(GREATEST - 1)), row, 12, 12, 0, 0, 12, 0);
            turnedIs("all above", withLevel(row, LEAST, all(LEAST + 1)), row, 0, 0, 12, 12, 12, 0);
        }
    }

    // ---- 8: between

    private static TideHouse withLevels(int row, int low, int high, int... numbers) {
        TideHouse house = between(row, low, high, numbers);
        house.level(0, row > 3, low);
        house.level(3, row > 3, high);
        return house;
    }

    private static void betweenOfMissing() {
        for (int row : EDGE_ROWS) {
            due("row missing", withLevels(row, LEAST, GREATEST, all(NONE)).between(row, 0, 3), 0);
            due("levels missing", withLevels(row, NONE, NONE, RISING).between(row, 0, 3), 0);
            due("all missing", new TideHouse().between(row, 0, 3), 0);
            due("one is there", withLevels(row, LEAST, GREATEST, allBut(NONE, 11, GREATEST)).between(row, 0, 3), 16);
            due("one is missing", withLevels(row, LEAST, GREATEST, allBut(LEAST, 0, NONE)).between(row, 0, 3), 16 * 11);
        }
    }

    private static void betweenWithoutOneLevel() {
        for (int row : EDGE_ROWS) {
            due("no low level", withLevels(row, NONE, 0, RISING).between(row, 0, 3), 7);
            due("no high level", withLevels(row, 0, NONE, RISING).between(row, 0, 3), 4);
            due("no low level, all not above", withLevels(row, NONE, GREATEST, RISING).between(row, 0, 3), 0);
            due("no high level, all not below", withLevels(row, LEAST, NONE, RISING).between(row, 0, 3), 0);
            due("no low level, all above", withLevels(row, NONE, LEAST, all(LEAST + 1)).between(row, 0, 3), 12);
            due("no high level, all below", withLevels(row, GREATEST, NONE, all(GREATEST - 1)).between(row, 0, 3), 12);
        }
    }

    private static void betweenInside() {
        for (int row : EDGE_ROWS) {
            due("all inside", withLevels(row, LEAST, GREATEST, RISING).between(row, 0, 3), 16 * 12);
            due("ends outside by one", withLevels(row, LEAST + 1, GREATEST - 1, RISING).between(row, 0, 3), 16 * 10 + 2);
            due("on the low level", withLevels(row, 5, 6, all(5)).between(row, 0, 3), 16 * 12);
            due("on the high level", withLevels(row, 4, 5, all(5)).between(row, 0, 3), 16 * 12);
            due("levels the same", withLevels(row, 5, 5, all(5)).between(row, 0, 3), 16 * 12);
        }
    }

    private static void betweenOutside() {
        for (int row : EDGE_ROWS) {
            due("all below", withLevels(row, 5, 9, all(4)).between(row, 0, 3), 12);
            due("all above", withLevels(row, 1, 3, all(4)).between(row, 0, 3), 12);
            due("below the first and above the second: once", withLevels(row, 9, 1, all(4)).between(row, 0, 3), 12);
            due("levels crossed", withLevels(row, GREATEST, LEAST, RISING).between(row, 0, 3), 12);
        }
    }

    // ---- 9: must

    private static void mustOfMissing() {
        for (int row : EDGE_ROWS) {
            for (int place = 0; place < 12; place += 11) {
                int p = place;
                TideHouse house = new TideHouse();
                due("both missing", house.must(row, p, 5, 3), NONE);
                house.level(3, row > 3, 0);
                due("reading missing", house.must(row, p, 5, 3), NONE);
                for (int sign = 0; sign < 5; sign++) {
                    int s = sign;
                    due("reading missing, sign " + s, thrown(house, h -> h.must(row, p, s, 3)), STATE);
                    due("both missing, sign " + s, thrown(house, h -> h.must(row, p, s, 0)), STATE);
                }
                house.put(row, p, GREATEST);
                due("level missing", house.must(row, p, 5, 0), GREATEST);
                for (int sign = 0; sign < 5; sign++) {
                    int s = sign;
                    due("level missing, sign " + s, thrown(house, h -> h.must(row, p, s, 0)), STATE);
                }
            }
        }
    }

    private static void mustAtEdges() {
        String[] first = {STATE, "-8000000", STATE, "-8000000", "-8000000", STATE};
        String[] last = {STATE, STATE, "8000000", "8000000", STATE, "8000000"};
        for (int row : EDGE_ROWS) {
            TideHouse house = withLevel(row, LEAST, RISING);
            for (int sign = 0; sign < 6; sign++) {
                due("first place, sign " + sign, mustText(house, row, 0, sign), first[sign]);
                due("last place, sign " + sign, mustText(house, row, 11, sign), last[sign]);
            }
            house.level(3, row > 3, GREATEST);
            due("first place, below", house.must(row, 0, 0, 3), LEAST);
            due("last place, not above", house.must(row, 11, 1, 3), GREATEST);
        }
    }

    private static String mustText(TideHouse house, int row, int place, int sign) {
        try {
            return "" + house.must(row, place, sign, 3);
        } catch (RuntimeException e) {
            return e.getClass().getSimpleName();
        }
    }

    private static void mustRefusedChangesNothing() {
        TideHouse house = withLevel(7, GREATEST, RISING);
        due("must", thrown(house, h -> h.must(7, 0, 2, 3)), STATE);
        dueRow("behind it", house, 7, RISING);
        due("level", house.level(3, true, GREATEST), false);
        due("gate", house.isOpen(3), false);
        due("notes", house.notes(7), 0);
    }

    // ---- 10 and 11: watch, isOpen

    private static void watchIs(String what, TideHouse house, int row, boolean trusting, int changes, boolean open) {
        due(what + ", row " + row + ": changes", house.watch(3, row, trusting), changes);
        due(what + ", row " + row + ": open", house.isOpen(3), open);
    }

    private static void watchOfMissing() {
        for (int row : EDGE_ROWS) {
            for (int k = 0; k < 3; k++) {
                TideHouse house = k == 0 ? new TideHouse() : k == 1 ? withLevel(row, 0, all(NONE)) : with(row, RISING);
                watchIs("doubting, shut", house, row, false, 0, false);
                watchIs("trusting, shut", house, row, true, 1, true);
                watchIs("trusting, open", house, row, true, 0, true);
                watchIs("doubting, open", house, row, false, 1, false);
            }
        }
    }

    private static void watchOnTheLevel() {
        for (int row : EDGE_ROWS) {
            for (int number : new int[] {LEAST, 0, GREATEST}) {
                watchIs("trusting, on it", withLevel(row, number, all(number)), row, true, 1, true);
                watchIs("doubting, on it", withLevel(row, number, all(number)), row, false, 1, true);
            }
            watchIs("trusting, just below", withLevel(row, GREATEST, all(GREATEST - 1)), row, true, 0, false);
            watchIs("doubting, just below", withLevel(row, GREATEST, all(GREATEST - 1)), row, false, 0, false);
            watchIs("trusting, just above", withLevel(row, LEAST, all(LEAST + 1)), row, true, 1, true);
            watchIs("doubting, just above", withLevel(row, LEAST, all(LEAST + 1)), row, false, 1, true);
        }
    }

    private static void watchChangesEachTime() {
        for (int row : EDGE_ROWS) {
            for (int k = 0; k < 2; k++) {
                TideHouse house = withLevel(row, 1, UP_AND_DOWN);
                watchIs("up first, shut", house, row, k == 0, 12, false);
                house.put(row, 11, 1);
                watchIs("up last, shut", house, row, k == 0, 11, true);
                watchIs("up first, open", house, row, k == 0, 10, true);
                house.put(row, 0, 0);
                watchIs("down first, open", house, row, k == 0, 10, true);
                house.put(row, 11, 0);
                watchIs("down last, open", house, row, k == 0, 11, false);
                watchIs("down last, shut", house, row, k == 0, 10, false);
            }
        }
    }

    private static void watchMissingAmongNumbers() {
        for (int row : EDGE_ROWS) {
            TideHouse house = withLevel(row, 0, 0, NONE, 0, NONE, 0, NONE, 0, NONE, 0, NONE, 0, NONE);
            watchIs("trusting, not below and missing", house, row, true, 1, true);
            watchIs("doubting, not below and missing, open", house, row, false, 11, false);
            watchIs("doubting, not below and missing, shut", house, row, false, 12, false);
            fill(house, row, -1, NONE, -1, NONE, -1, NONE, -1, NONE, -1, NONE, -1, NONE);
            watchIs("doubting, below and missing", house, row, false, 0, false);
            watchIs("trusting, below and missing, shut", house, row, true, 11, true);
            watchIs("trusting, below and missing, open", house, row, true, 12, true);
        }
    }

    private static void watchLastReading() {
        for (int row : EDGE_ROWS) {
            watchIs("only the last opens", withLevel(row, 5, allBut(4, 11, 5)), row, false, 1, true);
            watchIs("only the first opens", withLevel(row, 5, allBut(4, 0, 5)), row, false, 2, false);
            watchIs("only the last shuts", withLevel(row, 5, allBut(5, 11, 4)), row, true, 2, false);
            watchIs("only the first shuts", withLevel(row, 5, allBut(5, 0, 4)), row, true, 1, true);
        }
    }

    private static void isOpenOfEachGate() {
        for (int gate = 0; gate < 4; gate++) {
            TideHouse house = new TideHouse();
            house.watch(gate, 0, true);
            for (int other = 0; other < 4; other++) {
                due("isOpen " + other + " behind watch " + gate, house.isOpen(other), other == gate);
            }
        }
    }

    private static void gateForBothSorts() {
        TideHouse house = new TideHouse();
        due("opened by a fine row", house.watch(0, 3, true), 1);
        due("open for a rough one", house.watch(0, 4, true), 0);
        due("shut by a rough row", house.watch(0, 4, false), 1);
        due("shut for a fine one", house.watch(0, 3, false), 0);
    }

    // ---- 12 and 13: climb, drift

    private static void climbIs(String what, TideHouse house, int row, int place, int... ends) {
        for (int sign = 0; sign < 6; sign++) {
            due(what + ", row " + row + ", climb from " + place + ", sign " + sign, house.climb(row, place, sign), ends[sign]);
        }
    }

    private static void driftIs(String what, TideHouse house, int row, int place, int... ends) {
        for (int sign = 0; sign < 6; sign++) {
            due(what + ", row " + row + ", drift from " + place + ", sign " + sign, house.drift(row, place, sign), ends[sign]);
        }
    }

    // The rows beside it would carry on each way of going, if there were a step to them.
    private static void climbFromLast() {
        for (int row : EDGE_ROWS) {
            for (int next : new int[] {LEAST, 0, GREATEST, NONE}) {
                climbIs("full", between(row, next, next, all(0)), row, 11, 11, 11, 11, 11, 11, 11);
                climbIs("missing", between(row, next, next, all(NONE)), row, 11, 11, 11, 11, 11, 11, 11);
            }
        }
    }

    private static void driftFromLast() {
        for (int row : EDGE_ROWS) {
            for (int next : new int[] {LEAST, 0, GREATEST, NONE}) {
                driftIs("full", between(row, next, next, all(0)), row, 11, 11, 11, 11, 11, 11, 11);
                driftIs("missing", between(row, next, next, all(NONE)), row, 11, 11, 11, 11, 11, 11, 11);
            }
        }
    }

    private static void climbToTheEnd() {
        for (int row : EDGE_ROWS) {
            climbIs("rising", between(row, GREATEST, GREATEST, RISING), row, 0, 11, 11, 0, 0, 0, 11);
            climbIs("falling", between(row, LEAST, LEAST, FALLING), row, 0, 0, 0, 11, 11, 0, 11);
            climbIs("all the same", between(row, 0, 0, all(0)), row, 0, 0, 11, 0, 11, 11, 0);
            climbIs("rising", between(row, GREATEST, GREATEST, RISING), row, 10, 11, 11, 10, 10, 10, 11);
            climbIs("the last is lower", between(row, 0, 0, allBut(5, 11, 4)), row, 0, 0, 10, 0, 11, 10, 0);
            climbIs("the last is lower", between(row, 0, 0, allBut(5, 11, 4)), row, 10, 10, 10, 11, 11, 10, 11);
            climbIs("the first is lower", between(row, 0, 0, allBut(5, 0, 4)), row, 0, 1, 11, 0, 0, 0, 1);
        }
    }

    private static void driftToTheEnd() {
        for (int row : EDGE_ROWS) {
            driftIs("rising", between(row, LEAST, LEAST, RISING), row, 0, 0, 0, 11, 11, 11, 0);
            driftIs("falling", between(row, GREATEST, GREATEST, FALLING), row, 0, 11, 11, 0, 0, 11, 0);
            driftIs("all the same", between(row, 1, 1, all(0)), row, 0, 11, 0, 11, 0, 0, 11);
            driftIs("rising", between(row, LEAST, LEAST, RISING), row, 10, 10, 10, 11, 11, 11, 10);
            driftIs("the last is lower", between(row, 0, 0, allBut(5, 11, 4)), row, 0, 11, 0, 10, 0, 0, 10);
            driftIs("the first is lower", between(row, 0, 0, allBut(5, 0, 4)), row, 0, 0, 0, 11, 1, 1, 0);
        }
    }

    private static void climbOverMissing() {
        for (int row : EDGE_ROWS) {
            climbIs("all missing", new TideHouse(), row, 0, 0, 0, 0, 0, 0, 11);
            climbIs("all missing", new TideHouse(), row, 10, 10, 10, 10, 10, 10, 11);
            climbIs("the last is missing", with(row, allBut(5, 11, NONE)), row, 0, 0, 10, 0, 10, 10, 0);
            climbIs("the last is missing", with(row, allBut(5, 11, NONE)), row, 10, 10, 10, 10, 10, 10, 11);
            climbIs("the first is missing", with(row, allBut(5, 0, NONE)), row, 0, 0, 0, 0, 0, 0, 1);
        }
    }

    private static void driftOverMissing() {
        for (int row : EDGE_ROWS) {
            driftIs("all missing", new TideHouse(), row, 0, 11, 11, 11, 11, 11, 0);
            driftIs("all missing", new TideHouse(), row, 10, 11, 11, 11, 11, 11, 10);
            driftIs("the last is missing", with(row, allBut(5, 11, NONE)), row, 0, 11, 0, 11, 0, 0, 10);
            driftIs("the last is missing", with(row, allBut(5, 11, NONE)), row, 10, 11, 11, 11, 11, 11, 10);
            driftIs("the first is missing", with(row, allBut(5, 0, NONE)), row, 0, 11, 1, 11, 1, 1, 0);
        }
    }

    // ---- 14: pick

    private static void pickIs(String what, TideHouse house, int row, int... held) {
        for (int sign = 0; sign < 6; sign++) {
            due(what + ", row " + row + ", pick, sign " + sign, house.pick(row, sign), held[sign]);
        }
    }

    private static void pickFirstAndLast() {
        for (int row : EDGE_ROWS) {
            pickIs("rising", between(row, LEAST, GREATEST, RISING), row, 0, 0, 11, 11, 0, 11);
            pickIs("falling", between(row, GREATEST, LEAST, FALLING), row, 11, 11, 0, 0, 0, 11);
            pickIs("all the same", between(row, 4, 6, all(5)), row, 0, 11, 0, 11, 11, 0);
            pickIs("the last is lower", between(row, 3, 3, allBut(5, 11, 4)), row, 11, 11, 0, 10, 10, 11);
            pickIs("the first is lower", between(row, 3, 3, allBut(5, 0, 4)), row, 0, 0, 1, 11, 0, 1);
            pickIs("greatest and least in turn", with(row, GREATEST, LEAST, GREATEST, LEAST, GREATEST, LEAST, GREATEST, LEAST,
                GREATEST, LEAST, GREATEST, LEAST), row, 1, 11, 0, 10, 10, 11);
        }
    }

    private static void pickMissing() {
        for (int row : EDGE_ROWS) {
            pickIs("all missing", new TideHouse(), row, 0, 0, 0, 0, 0, 11);
            pickIs("the first is missing", with(row, allBut(5, 0, NONE)), row, 0, 0, 0, 0, 0, 1);
            pickIs("the last is missing", with(row, allBut(5, 11, NONE)), row, 0, 10, 0, 10, 10, 11);
            pickIs("only the first is there", with(row, allBut(NONE, 0, 5)), row, 0, 0, 0, 0, 0, 11);
            pickIs("only first and last", with(row, 5, NONE, NONE, NONE, NONE, NONE, NONE, NONE, NONE, NONE, NONE, 5), row, 0, 11, 0, 11, 11, 11);
        }
    }

    // ---- 15 and 16: keep, notes

    private static void keepIs(String what, TideHouse house, int row, int... notes) {
        for (int sign = 0; sign < 6; sign++) {
            due(what + ", row " + row + ", keep, sign " + sign, house.keep(row, sign), Integer.bitCount(notes[sign]));
            due(what + ", row " + row + ", notes, sign " + sign, house.notes(row), notes[sign]);
        }
    }

    private static void keepAllOrNothing() {
        for (int row : EDGE_ROWS) {
            keepIs("rising", between(row, GREATEST, GREATEST, RISING), row, 2047, 2047, 0, 0, 0, 2047);
            keepIs("falling", between(row, LEAST, LEAST, FALLING), row, 0, 0, 2047, 2047, 0, 2047);
            keepIs("all the same", between(row, 5, 5, all(5)), row, 0, 2047, 0, 2047, 2047, 0);
        }
    }

    private static void keepFirstAndLastBit() {
        for (int row : EDGE_ROWS) {
            keepIs("the first is lower", between(row, 5, 5, allBut(5, 0, 4)), row, 1, 2047, 0, 2046, 2046, 1);
            keepIs("the first is higher", between(row, 5, 5, allBut(5, 0, 6)), row, 0, 2046, 1, 2047, 2046, 1);
            keepIs("the last is lower", between(row, 5, 5, allBut(5, 11, 4)), row, 0, 1023, 1024, 2047, 1023, 1024);
            keepIs("the last is higher", between(row, 5, 5, allBut(5, 11, 6)), row, 1024, 2047, 0, 1023, 1023, 1024);
        }
    }

    private static void keepOfMissing() {
        for (int row : EDGE_ROWS) {
            keepIs("all missing", between(row, 5, 5, all(NONE)), row, 0, 0, 0, 0, 0, 2047);
            keepIs("the first is missing", between(row, 5, 5, allBut(5, 0, NONE)), row, 0, 2046, 0, 2046, 2046, 1);
            keepIs("the last is missing", between(row, 5, 5, allBut(5, 11, NONE)), row, 0, 1023, 0, 1023, 1023, 1024);
            keepIs("only the last is there", between(row, 5, 5, allBut(NONE, 11, 5)), row, 0, 0, 0, 0, 0, 2047);
        }
    }

    private static void keepBecomesThese() {
        TideHouse house = with(7, RISING);
        house.keep(7, 0);
        due("all 1", house.notes(7), 2047);
        house.keep(7, 2);
        due("all 0, the old ones are gone", house.notes(7), 0);
        due("other rows", house.notes(0) + house.notes(6), 0);
    }

    private static void keepRefused() {
        for (int sign : new int[] {-1, 6}) {
            TideHouse house = with(7, UP_AND_DOWN);
            house.keep(7, 0);
            due("keep, sign " + sign, thrown(house, h -> h.keep(7, sign)), ARGUMENT);
            due("notes", house.notes(7), 2 + 8 + 32 + 128 + 512);
        }
    }

    private static void notesStay() {
        for (int base = 0; base < 8; base += 4) {
            TideHouse house = with(base, RISING);
            fill(house, base + 1, FALLING);
            house.keep(base, 0);
            fill(house, base, all(NONE));
            due("behind put", house.notes(base), 2047);
            house.copy(base + 1, base);
            due("behind copy", house.notes(base), 2047);
            house.copy(base, base + 1);
            due("behind copy from it", house.notes(base + 1), 0);
            house.settle(base, 0);
            due("behind settle", house.notes(base), 2047);
            house.merge(base + 1, base + 2, base, 0);
            due("behind merge", house.notes(base), 2047);
            house.merge(base, base + 1, base + 3, 5);
            due("behind merge, third", house.notes(base + 3), 0);
        }
    }

    // ---- 17: gaps

    private static void gapsAllAndNone() {
        for (int row : EDGE_ROWS) {
            due("all, its neighbours full", between(row, 1, 1, all(NONE)).gaps(row), 12);
            due("none, its neighbours empty", with(row, RISING).gaps(row), 0);
            due("the first", between(row, 1, 1, allBut(1, 0, NONE)).gaps(row), 1);
            due("the last", between(row, 1, 1, allBut(1, 11, NONE)).gaps(row), 1);
            due("all but the first", between(row, 1, 1, allBut(NONE, 0, LEAST)).gaps(row), 11);
            due("all but the last", between(row, 1, 1, allBut(NONE, 11, GREATEST)).gaps(row), 11);
            due("least", with(row, all(LEAST)).gaps(row), 0);
            due("zero", with(row, all(0)).gaps(row), 0);
        }
    }

    // ---- 18: settle

    private static void settleIs(String what, int row, int sign, int changes, int[] before, int... after) {
        for (int beside : new int[] {LEAST, GREATEST, NONE}) {
            TideHouse house = between(row, beside, beside, before);
            due(what + ", row " + row + ", settle, sign " + sign, house.settle(row, sign), changes);
            dueRow(what + ", sign " + sign, house, row, after);
            if (row > 0) {
                dueRow(what + ", sign " + sign + ", the one before", house, row - 1, all(beside));
            }
            if (row < 7) {
                dueRow(what + ", sign " + sign + ", the one behind", house, row + 1, all(beside));
            }
        }
    }

    private static void settleMostAndLeast() {
        for (int row : EDGE_ROWS) {
            settleIs("falling", row, 0, 66, FALLING, RISING);
            settleIs("falling", row, 1, 66, FALLING, RISING);
            settleIs("falling", row, 2, 0, FALLING, FALLING);
            settleIs("falling", row, 3, 0, FALLING, FALLING);
            settleIs("falling", row, 4, 0, FALLING, FALLING);
            settleIs("falling", row, 5, 66, FALLING, RISING);
            settleIs("rising", row, 0, 0, RISING, RISING);
            settleIs("rising", row, 1, 0, RISING, RISING);
            settleIs("rising", row, 2, 66, RISING, FALLING);
            settleIs("rising", row, 3, 66, RISING, FALLING);
            settleIs("rising", row, 4, 0, RISING, RISING);
            settleIs("rising", row, 5, 66, RISING, FALLING);
        }
    }

    private static void settleTheSame() {
        int[] changes = {0, 66, 0, 66, 66, 0};
        for (int row : EDGE_ROWS) {
            for (int sign = 0; sign < 6; sign++) {
                settleIs("all the same", row, sign, changes[sign], all(5), all(5));
            }
        }
    }

    private static void settleMissing() {
        int[] changes = {0, 0, 0, 0, 0, 66};
        for (int row : EDGE_ROWS) {
            for (int sign = 0; sign < 6; sign++) {
                settleIs("all missing", row, sign, changes[sign], all(NONE), all(NONE));
            }
            settleIs("the first is missing", row, 0, 0, allBut(5, 0, NONE), allBut(5, 0, NONE));
            settleIs("the last is missing", row, 0, 0, allBut(5, 11, NONE), allBut(5, 11, NONE));
            settleIs("the last is missing, unlike", row, 5, 11, allBut(5, 11, NONE), allBut(5, 0, NONE));
            settleIs("the first is missing, unlike", row, 5, 11, allBut(5, 0, NONE), allBut(5, 11, NONE));
            settleIs("missing stands between", row, 0, 1, new int[] {9, 8, NONE, 3, 4, 5, 6, 7, 8, 9, NONE, 1},
                8, 9, NONE, 3, 4, 5, 6, 7, 8, 9, NONE, 1);
        }
    }

    private static void settleFirstAndLastStep() {
        for (int row : EDGE_ROWS) {
            settleIs("place 1 alone", row, 0, 1, new int[] {6, 5, 7, 7, 7, 7, 7, 7, 7, 7, 7, 8}, 5, 6, 7, 7, 7, 7, 7, 7, 7, 7, 7, 8);
            settleIs("place 11 alone", row, 0, 1, new int[] {5, 6, 7, 7, 7, 7, 7, 7, 7, 7, 9, 8}, 5, 6, 7, 7, 7, 7, 7, 7, 7, 7, 8, 9);
            settleIs("each pushes the 1, the last finds it", row, 5, 10, new int[] {1, 2, 2, 2, 2, 2, 2, 2, 2, 2, 2, 1},
                2, 2, 2, 2, 2, 2, 2, 2, 2, 2, 1, 1);
        }
    }

    // The first goes behind all the others, each of which goes one to the left.
    private static void settleAllTheWay() {
        for (int row : EDGE_ROWS) {
            settleIs("the last to the first place", row, 0, 11, allBut(5, 11, 4), allBut(5, 0, 4));
            settleIs("the first to the last place", row, 0, 11, allBut(5, 0, 6), allBut(5, 11, 6));
            settleIs("the last above, to the first place", row, 2, 11, allBut(5, 11, 6), allBut(5, 0, 6));
            settleIs("the first below, to the last place", row, 2, 11, allBut(5, 0, 4), allBut(5, 11, 4));
        }
    }

    private static void settleRefused() {
        for (int sign : new int[] {-1, 6}) {
            TideHouse house = with(7, FALLING);
            due("settle, sign " + sign, thrown(house, h -> h.settle(7, sign)), ARGUMENT);
            dueRow("behind it", house, 7, FALLING);
        }
    }

    // ---- 19 and 20: meet, alike

    private static void meetIs(String what, TideHouse house, int row, int other, int... counts) {
        for (int sign = 0; sign < 6; sign++) {
            due(what + ", meet " + row + " " + other + ", sign " + sign, house.meet(row, other, sign), counts[sign]);
        }
    }

    private static void meetEveryPlaceOrNone() {
        for (int base = 0; base < 8; base += 4) {
            TideHouse house = with(base, all(LEAST));
            fill(house, base + 3, all(GREATEST));
            meetIs("least and greatest", house, base, base + 3, 12, 12, 0, 0, 0, 12);
            meetIs("greatest and least", house, base + 3, base, 0, 0, 12, 12, 0, 12);
            meetIs("a full one and a missing one", house, base, base + 1, 0, 0, 0, 0, 0, 12);
            meetIs("a missing one and a full one", house, base + 1, base, 0, 0, 0, 0, 0, 12);
            meetIs("two missing ones", house, base + 1, base + 2, 0, 0, 0, 0, 0, 12);
            fill(house, base + 3, all(LEAST));
            meetIs("all the same", house, base, base + 3, 0, 12, 0, 12, 12, 0);
            house.put(base + 3, 0, LEAST + 1);
            meetIs("the first is unlike", house, base, base + 3, 1, 12, 0, 11, 11, 1);
            house.put(base + 3, 0, LEAST);
            house.put(base + 3, 11, NONE);
            meetIs("the last is missing", house, base, base + 3, 0, 11, 0, 11, 11, 1);
        }
    }

    private static void meetItself() {
        for (int row : EDGE_ROWS) {
            meetIs("full", with(row, RISING), row, row, 0, 12, 0, 12, 12, 0);
            meetIs("missing", new TideHouse(), row, row, 0, 0, 0, 0, 0, 12);
            meetIs("the last is missing", with(row, allBut(5, 11, NONE)), row, row, 0, 11, 0, 11, 11, 1);
        }
    }

    private static void meetRefused() {
        for (int sign = 0; sign < 6; sign++) {
            int s = sign;
            due("fine and rough", thrown(new TideHouse(), h -> h.meet(3, 4, s)), ARGUMENT);
            due("rough and fine", thrown(new TideHouse(), h -> h.meet(4, 3, s)), ARGUMENT);
            due("first and last", thrown(new TideHouse(), h -> h.meet(0, 7, s)), ARGUMENT);
        }
        for (int sign : new int[] {-1, 6}) {
            due("sign " + sign, thrown(new TideHouse(), h -> h.meet(0, 3, sign)), ARGUMENT);
            due("sign " + sign, thrown(new TideHouse(), h -> h.meet(7, 7, sign)), ARGUMENT);
            due("sign and sort", thrown(new TideHouse(), h -> h.meet(3, 4, sign)), ARGUMENT);
        }
    }

    private static void alikeIs(String what, TideHouse house, int row, int other, boolean want) {
        due(what + ", alike " + row + " " + other, house.alike(row, other), want);
        due(what + ", alike " + other + " " + row, house.alike(other, row), want);
    }

    private static void alikeAtEachPlace() {
        for (int base = 0; base < 8; base += 4) {
            for (int place = 0; place < 12; place++) {
                TideHouse house = with(base, RISING);
                fill(house, base + 3, RISING);
                alikeIs("the same", house, base, base + 3, true);
                house.put(base + 3, place, 5);
                alikeIs("another number at " + place, house, base, base + 3, false);
                house.put(base + 3, place, NONE);
                alikeIs("MISSING at " + place, house, base, base + 3, false);
                house.put(base, place, NONE);
                alikeIs("MISSING in both at " + place, house, base, base + 3, true);
            }
        }
    }

    private static void alikeMissingInBoth() {
        for (int base = 0; base < 8; base += 4) {
            TideHouse house = new TideHouse();
            alikeIs("all missing", house, base, base + 3, true);
            alikeIs("itself, all missing", house, base, base, true);
            house.put(base, 11, 0);
            alikeIs("0 and MISSING", house, base, base + 3, false);
            alikeIs("itself", house, base, base, true);
            house.put(base, 11, LEAST);
            alikeIs("least and MISSING", house, base, base + 3, false);
            fill(house, base, all(GREATEST));
            fill(house, base + 3, all(LEAST));
            alikeIs("greatest and least", house, base, base + 3, false);
            fill(house, base + 3, all(GREATEST));
            alikeIs("greatest in both", house, base, base + 3, true);
            house.keep(base, 5);
            alikeIs("whatever NOTES there are", house, base, base + 3, true);
        }
    }

    private static void alikeRefused() {
        int[][] pairs = {{3, 4}, {4, 3}, {0, 7}, {7, 0}};
        for (int[] pair : pairs) {
            due("all missing, " + pair[0] + " " + pair[1], thrown(new TideHouse(), h -> h.alike(pair[0], pair[1])), ARGUMENT);
        }
    }

    // ---- 21: merge

    private static void mergeIs(String what, TideHouse house, int base, int sign, int ofFirst, int... third) {
        due(what + ", sign " + sign + ", of the first", house.merge(base, base + 1, base + 3, sign), ofFirst);
        dueRow(what + ", sign " + sign, house, base + 3, third);
    }

    private static void mergeAllOfOne() {
        for (int base = 0; base < 8; base += 4) {
            TideHouse house = with(base, RISING);
            fill(house, base + 1, all(GREATEST));
            fill(house, base + 2, all(3));
            mergeIs("first below but for its last", house, base, 0, 11, RISING);
            mergeIs("first not above", house, base, 1, 12, RISING);
            mergeIs("first never above", house, base, 2, 0, all(GREATEST));
            mergeIs("first never not below", house, base, 3, 0, all(GREATEST));
            mergeIs("never the same", house, base, 4, 0, all(GREATEST));
            mergeIs("unlike but for its last", house, base, 5, 11, RISING);
            dueRow("the first stays", house, base, RISING);
            dueRow("the second stays", house, base + 1, all(GREATEST));
            dueRow("the fourth stays", house, base + 2, all(3));
        }
    }

    private static void mergeToTheLastOfBoth() {
        for (int base = 0; base < 8; base += 4) {
            TideHouse house = with(base, allBut(5, 11, 6));
            fill(house, base + 1, all(7));
            mergeIs("the first's last is taken", house, base, 0, 12, allBut(5, 11, 6));
            fill(house, base + 1, allBut(4, 11, 3));
            mergeIs("the second's last is taken", house, base, 0, 0, allBut(4, 11, 3));
            fill(house, base, allBut(5, 0, 1));
            fill(house, base + 1, allBut(4, 0, 2));
            mergeIs("one of the first", house, base, 0, 1, 1, 2, 4, 4, 4, 4, 4, 4, 4, 4, 4, 4);
            fill(house, base, all(5));
            fill(house, base + 1, allBut(4, 0, 6));
            mergeIs("one of the second", house, base, 2, 11, allBut(5, 0, 6));
            fill(house, base, allBut(5, 11, 7));
            fill(house, base + 1, allBut(6, 0, 5));
            mergeIs("the second's first at the last place", house, base, 4, 11, all(5));
        }
    }

    private static void mergeMissing() {
        for (int base = 0; base < 8; base += 4) {
            for (int sign = 0; sign < 6; sign++) {
                TideHouse house = with(base, RISING);
                mergeIs("second missing", house, base, sign, sign == 5 ? 12 : 0, sign == 5 ? RISING : all(NONE));
                TideHouse turned = with(base + 1, RISING);
                mergeIs("first missing", turned, base, sign, sign == 5 ? 12 : 0, sign == 5 ? all(NONE) : RISING);
                mergeIs("both missing", new TideHouse(), base, sign, sign == 5 ? 12 : 0, all(NONE));
            }
            TideHouse house = with(base, allBut(1, 1, NONE));
            fill(house, base + 1, all(2));
            mergeIs("missing is never taken", house, base, 0, 1, allBut(2, 0, 1));
        }
    }

    private static void mergeWithItself() {
        for (int base = 0; base < 8; base += 4) {
            TideHouse house = with(base, RISING);
            due("the same", house.merge(base, base, base + 3, 4), 6);
            dueRow("the same", house, base + 3, LEAST, LEAST, -9, -9, -8, -8, -1, -1, 0, 0, 1, 1);
            due("unlike", house.merge(base, base, base + 3, 5), 6);
            due("below", house.merge(base, base, base + 3, 0), 6);
            due("above", house.merge(base, base, base + 3, 2), 0);
            dueRow("it stays", house, base, RISING);
        }
    }

    private static void mergeEdgeRows() {
        int[][] good = {{0, 1, 3}, {3, 2, 0}, {0, 3, 1}, {4, 5, 7}, {7, 6, 4}, {4, 7, 5}, {0, 0, 3}, {7, 7, 4}};
        for (int[] rows : good) {
            due("merge " + Arrays.toString(rows), thrown(new TideHouse(), h -> h.merge(rows[0], rows[1], rows[2], 0)), NOTHING);
        }
    }

    private static void mergeIsRefused(int sign, int... rows) {
        TideHouse house = new TideHouse();
        for (int row = 0; row < 8; row++) {
            fill(house, row, allBut(row, 11, 20 - row));
        }
        due("merge " + Arrays.toString(rows) + ", sign " + sign, thrown(house, h -> h.merge(rows[0], rows[1], rows[2], sign)), ARGUMENT);
        for (int row = 0; row < 8; row++) {
            dueRow("behind merge " + Arrays.toString(rows), house, row, allBut(row, 11, 20 - row));
        }
    }

    private static void mergeOfNoSign() {
        mergeIsRefused(-1, 0, 1, 3);
        mergeIsRefused(6, 0, 1, 3);
        mergeIsRefused(-1, 7, 6, 4);
        mergeIsRefused(6, 7, 6, 4);
    }

    private static void mergeOfTwoSorts() {
        int[][] bad = {{4, 2, 3}, {3, 4, 2}, {2, 3, 4}, {3, 4, 5}, {4, 3, 5}, {4, 5, 3}, {0, 0, 7}, {7, 7, 0}, {0, 7, 1}, {7, 0, 6}};
        for (int[] rows : bad) {
            for (int sign = 0; sign < 6; sign++) {
                mergeIsRefused(sign, rows);
            }
        }
    }

    private static void mergeThirdIsNoOther() {
        int[][] bad = {{0, 1, 0}, {0, 1, 1}, {0, 0, 0}, {3, 2, 3}, {2, 3, 3}, {4, 5, 4}, {5, 4, 4}, {7, 6, 7}, {6, 7, 7}, {7, 7, 7}};
        for (int[] rows : bad) {
            for (int sign = 0; sign < 6; sign++) {
                mergeIsRefused(sign, rows);
            }
        }
    }

    // ---- the last call that an object is used for

    private static void lastCall() {
        TideHouse house = new TideHouse();
        for (int call = 1; call <= 511; call++) {
            due("call " + call, house.put(call % 8, call % 12, call), true);
        }
        due("call 512", house.reading(511 % 8, 511 % 12), 511);
    }

    public static void main(String[] args) {
        test(1, "All is MISSING", BoundaryTest::allIsMissing);
        test(1, "all GATES are shut", BoundaryTest::allGatesAreShut);
        test(1, "A new object, beside one that is used", BoundaryTest::newBesideOld);
        test(2, "A READING becomes a number: first and last ROW and PLACE", BoundaryTest::putAtEdges);
        test(2, "A READING becomes a number, or MISSING: first and last number", BoundaryTest::putNumbersAtEdges);
        test(2, "MISSING in place of MISSING is none", BoundaryTest::putMissingForMissing);
        test(2, "IllegalArgumentException: a number is beyond", BoundaryTest::putRefused);
        test(2, "IndexOutOfBoundsException: no such PLACE", BoundaryTest::placeIsNoOtherRows);
        test(3, "A READING", BoundaryTest::readingChangesNothing);
        test(4, "that for ROUGH ROWS or that for FINE ones", BoundaryTest::levelAtEdges);
        test(4, "becomes a number, or MISSING: first and last number", BoundaryTest::levelNumbersAtEdges);
        test(4, "whether that is another one, likewise", BoundaryTest::levelMissingForMissing);
        test(4, "IllegalArgumentException: a number is beyond", BoundaryTest::levelRefused);
        test(4, "A LEVEL becomes a number: a GATE stays", BoundaryTest::levelMovesNoGate);
        test(5, "A ROW gets all READINGS of another one of its sort", BoundaryTest::copyFromEdgeToEdge);
        test(5, "how many of them are MISSING: all", BoundaryTest::copyAllMissing);
        test(5, "how many of them are MISSING: none", BoundaryTest::copyNoneMissing);
        test(5, "how many of them are MISSING", BoundaryTest::copyCountsWhatCame);
        test(5, "of itself: nothing happens", BoundaryTest::copyOfItself);
        test(5, "IllegalArgumentException: they are not of one sort", BoundaryTest::copyOfTwoSorts);
        test(6, "Of how many READINGS x TRUE: all MISSING, one, all but one", BoundaryTest::straightOfMissing);
        test(6, "Of how many READINGS x TRUE: nothing MISSING", BoundaryTest::straightOfFull);
        test(7, "Of how many READINGS x not TRUE: all MISSING, one, all but one", BoundaryTest::turnedOfMissing);
        test(7, "Of how many READINGS x not TRUE: nothing MISSING", BoundaryTest::turnedOfFull);
        test(8, "16 times how many, and how many: READINGS or both LEVELS are MISSING", BoundaryTest::betweenOfMissing);
        test(8, "16 times how many, and how many: one LEVEL is MISSING", BoundaryTest::betweenWithoutOneLevel);
        test(8, "not below the first one's LEVEL and not above the second one's", BoundaryTest::betweenInside);
        test(8, "below the first one's or above the second one's", BoundaryTest::betweenOutside);
        test(9, "MISSING, if it is", BoundaryTest::mustOfMissing);
        test(9, "The READING, if the QUESTION is TRUE. IllegalStateException: it is not TRUE", BoundaryTest::mustAtEdges);
        test(9, "IllegalStateException changes nothing", BoundaryTest::mustRefusedChangesNothing);
        test(10, "OPEN unless it is below; shut unless it is not below: MISSING", BoundaryTest::watchOfMissing);
        test(10, "OPEN unless it is below; shut unless it is not below: on THE LEVEL", BoundaryTest::watchOnTheLevel);
        test(10, "how often it changed: READING by READING", BoundaryTest::watchChangesEachTime);
        test(10, "how often it changed: MISSING among numbers", BoundaryTest::watchMissingAmongNumbers);
        test(10, "READING by READING of a ROW: the first and the last", BoundaryTest::watchLastReading);
        test(11, "Whether a GATE is OPEN: each by itself", BoundaryTest::isOpenOfEachGate);
        test(11, "Whether a GATE is OPEN: one for FINE and ROUGH", BoundaryTest::gateForBothSorts);
        test(12, "as long as there is a next one", BoundaryTest::climbFromLast);
        test(12, "one PLACE further: to the last, or nowhere", BoundaryTest::climbToTheEnd);
        test(12, "the QUESTION is TRUE: MISSING", BoundaryTest::climbOverMissing);
        test(13, "Likewise: as long as there is a next one", BoundaryTest::driftFromLast);
        test(13, "Likewise, as long as it is not TRUE: to the last, or nowhere", BoundaryTest::driftToTheEnd);
        test(13, "Likewise, as long as it is not TRUE: MISSING", BoundaryTest::driftOverMissing);
        test(14, "PLACE 0 is held; for each next one, in order", BoundaryTest::pickFirstAndLast);
        test(14, "it is held in place of that, if TRUE: MISSING", BoundaryTest::pickMissing);
        test(15, "how many are 1: all, or none", BoundaryTest::keepAllOrNothing);
        test(15, "bit k (0 to 10)", BoundaryTest::keepFirstAndLastBit);
        test(15, "is 1, if TRUE: MISSING", BoundaryTest::keepOfMissing);
        test(15, "NOTES of a ROW become these", BoundaryTest::keepBecomesThese);
        test(15, "IllegalArgumentException: a SIGN is none", BoundaryTest::keepRefused);
        test(16, "they stay as READINGS change", BoundaryTest::notesStay);
        test(17, "How many READINGS of a ROW are unlike themselves", BoundaryTest::gapsAllAndNone);
        test(18, "how many such changes in all: 0 and 66", BoundaryTest::settleMostAndLeast);
        test(18, "as long as the QUESTION is TRUE: all the same", BoundaryTest::settleTheSame);
        test(18, "as long as the QUESTION is TRUE: MISSING", BoundaryTest::settleMissing);
        test(18, "PLACE by PLACE, from 1 on", BoundaryTest::settleFirstAndLastStep);
        test(18, "goes to the left, as long as there is a neighbour", BoundaryTest::settleAllTheWay);
        test(18, "IllegalArgumentException: a SIGN is none", BoundaryTest::settleRefused);
        test(19, "At how many PLACES: all, none, the first, the last", BoundaryTest::meetEveryPlaceOrNone);
        test(19, "the first ROW's READING and the second one's: a ROW and itself", BoundaryTest::meetItself);
        test(19, "IllegalArgumentException: the SIGN, or they are not of one sort", BoundaryTest::meetRefused);
        test(20, "at each PLACE the same number in both", BoundaryTest::alikeAtEachPlace);
        test(20, "or MISSING in both", BoundaryTest::alikeMissingInBoth);
        test(20, "IllegalArgumentException: they are not of one sort", BoundaryTest::alikeRefused);
        test(21, "how many came of the first: all, or none", BoundaryTest::mergeAllOfOne);
        test(21, "the next READING that was not taken: up to the last", BoundaryTest::mergeToTheLastOfBoth);
        test(21, "if the QUESTION is TRUE, else that of the second: MISSING", BoundaryTest::mergeMissing);
        test(21, "the first ROW and the second: a ROW and itself", BoundaryTest::mergeWithItself);
        test(21, "PLACES 0 to 11 of a third ROW: first and last ROWS", BoundaryTest::mergeEdgeRows);
        test(21, "IllegalArgumentException: the SIGN", BoundaryTest::mergeOfNoSign);
        test(21, "IllegalArgumentException: they are not all of one sort", BoundaryTest::mergeOfTwoSorts);
        test(21, "IllegalArgumentException: the third is the first or the second", BoundaryTest::mergeThirdIsNoOther);
        test(3, "An object is used for at most 512 calls (What it is)", BoundaryTest::lastCall);
        System.out.println(wrong == 0 ? "all boundaries are kept" : wrong + " answers are not as due");
        if (wrong != 0) {
            System.exit(1);
        }
    }
}
