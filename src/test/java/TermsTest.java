import java.util.LinkedHashMap;
import java.util.Map;

/** Each sentence under "Terms" that names a boundary case, by its own words, with a test of its own. */
public final class TermsTest {
    private static final int NONE = TideHouse.MISSING;
    private static final int LEAST = -8000000;
    private static final int GREATEST = 8000000;
    private static final String NOTHING = "nothing";
    private static final String INDEX = "IndexOutOfBoundsException";
    private static final String ARGUMENT = "IllegalArgumentException";
    private static final String STATE = "IllegalStateException";

    private static int wrong = 0;
    private static String sentence = "";

    private interface Call {
        Object on(TideHouse house, int x);
    }

    private interface NoCall {
        Object on(TideHouse house);
    }

    private static void due(String what, Object got, Object want) {
        if (!got.equals(want)) {
            wrong++;
            System.out.println("\"" + sentence + "\": " + what + " gave " + got + ", due is " + want);
        }
    }

    private static String thrown(TideHouse house, NoCall call) {
        try {
            call.on(house);
            return NOTHING;
        } catch (RuntimeException e) {
            return e.getClass().getSimpleName();
        }
    }

    private static void test(String words, Runnable body) {
        sentence = words;
        try {
            body.run();
        } catch (RuntimeException e) {
            wrong++;
            System.out.println("\"" + words + "\": a call that is due to answer threw " + e);
        }
    }

    private static void fill(TideHouse house, int row, int number) {
        for (int place = 0; place < 12; place++) {
            house.put(row, place, number);
        }
    }

    private static TideHouse filled(int row, int number) {
        TideHouse house = new TideHouse();
        fill(house, row, number);
        return house;
    }

    // ---- which rows, places, gates, numbers and signs there are

    // This row and the next one are of the same sort and never at its ends, where the row in question is.
    private static int beside(int row) {
        return row < 4 ? 1 : 5;
    }

    private static Map<String, Call> callsOfRow() {
        Map<String, Call> calls = new LinkedHashMap<>();
        calls.put("put", (h, row) -> h.put(row, 5, 1));
        calls.put("reading", (h, row) -> h.reading(row, 5));
        calls.put("copy from", (h, row) -> h.copy(row, beside(row)));
        calls.put("copy to", (h, row) -> h.copy(beside(row), row));
        calls.put("copy of itself", (h, row) -> h.copy(row, row));
        calls.put("straight", (h, row) -> h.straight(row, 0, 0));
        calls.put("turned", (h, row) -> h.turned(row, 0, 0));
        calls.put("between", (h, row) -> h.between(row, 0, 1));
        calls.put("must", (h, row) -> h.must(row, 0, 5, 0));
        calls.put("watch trusting", (h, row) -> h.watch(0, row, true));
        calls.put("watch doubting", (h, row) -> h.watch(0, row, false));
        calls.put("climb", (h, row) -> h.climb(row, 0, 0));
        calls.put("drift", (h, row) -> h.drift(row, 0, 0));
        calls.put("pick", (h, row) -> h.pick(row, 0));
        calls.put("keep", (h, row) -> h.keep(row, 0));
        calls.put("notes", (h, row) -> h.notes(row));
        calls.put("gaps", (h, row) -> h.gaps(row));
        calls.put("settle", (h, row) -> h.settle(row, 0));
        calls.put("meet first", (h, row) -> h.meet(row, beside(row), 0));
        calls.put("meet second", (h, row) -> h.meet(beside(row), row, 0));
        calls.put("meet itself", (h, row) -> h.meet(row, row, 0));
        calls.put("alike first", (h, row) -> h.alike(row, beside(row)));
        calls.put("alike second", (h, row) -> h.alike(beside(row), row));
        calls.put("alike itself", (h, row) -> h.alike(row, row));
        calls.put("merge first", (h, row) -> h.merge(row, beside(row), beside(row) + 1, 0));
        calls.put("merge second", (h, row) -> h.merge(beside(row), row, beside(row) + 1, 0));
        calls.put("merge both", (h, row) -> h.merge(row, row, beside(row), 0));
        calls.put("merge third", (h, row) -> h.merge(beside(row), beside(row) + 1, row, 0));
        return calls;
    }

    private static Map<String, Call> callsOfPlace() {
        Map<String, Call> calls = new LinkedHashMap<>();
        for (int row = 0; row < 8; row += 7) {
            int r = row;
            calls.put("put in row " + r, (h, place) -> h.put(r, place, 1));
            calls.put("reading in row " + r, (h, place) -> h.reading(r, place));
            calls.put("must in row " + r, (h, place) -> h.must(r, place, 5, 0));
            calls.put("climb in row " + r, (h, place) -> h.climb(r, place, 0));
            calls.put("drift in row " + r, (h, place) -> h.drift(r, place, 0));
        }
        return calls;
    }

    private static Map<String, Call> callsOfGate() {
        Map<String, Call> calls = new LinkedHashMap<>();
        calls.put("fine level", (h, gate) -> h.level(gate, false, 1));
        calls.put("rough level", (h, gate) -> h.level(gate, true, 1));
        for (int row = 0; row < 8; row += 7) {
            int r = row;
            calls.put("straight, row " + r, (h, gate) -> h.straight(r, 0, gate));
            calls.put("turned, row " + r, (h, gate) -> h.turned(r, 0, gate));
            calls.put("between low, row " + r, (h, gate) -> h.between(r, gate, 1));
            calls.put("between high, row " + r, (h, gate) -> h.between(r, 1, gate));
            calls.put("between both, row " + r, (h, gate) -> h.between(r, gate, gate));
            calls.put("must, row " + r, (h, gate) -> h.must(r, 0, 5, gate));
            calls.put("watch trusting, row " + r, (h, gate) -> h.watch(gate, r, true));
            calls.put("watch doubting, row " + r, (h, gate) -> h.watch(gate, r, false));
        }
        calls.put("isOpen", (h, gate) -> h.isOpen(gate));
        return calls;
    }

    private static Map<String, Call> callsOfSign() {
        Map<String, Call> calls = new LinkedHashMap<>();
        calls.put("straight", (h, sign) -> h.straight(0, sign, 0));
        calls.put("turned", (h, sign) -> h.turned(0, sign, 0));
        calls.put("climb", (h, sign) -> h.climb(0, 0, sign));
        calls.put("climb from the last place", (h, sign) -> h.climb(0, 11, sign));
        calls.put("drift", (h, sign) -> h.drift(0, 0, sign));
        calls.put("drift from the last place", (h, sign) -> h.drift(0, 11, sign));
        calls.put("pick", (h, sign) -> h.pick(0, sign));
        calls.put("keep", (h, sign) -> h.keep(0, sign));
        calls.put("settle", (h, sign) -> h.settle(0, sign));
        calls.put("meet", (h, sign) -> h.meet(0, 1, sign));
        calls.put("merge", (h, sign) -> h.merge(0, 1, 2, sign));
        return calls;
    }

    private static void outside(Map<String, Call> calls, String exception, int... outside) {
        for (Map.Entry<String, Call> entry : calls.entrySet()) {
            for (int x : outside) {
                due(entry.getKey() + " with " + x, thrown(new TideHouse(), h -> entry.getValue().on(h, x)), exception);
                due(entry.getKey() + " with " + x + ", all full", thrown(fullHouse(), h -> entry.getValue().on(h, x)), exception);
            }
        }
    }

    private static void inside(Map<String, Call> calls, int... inside) {
        for (int x : inside) {
            calls.forEach((name, call) -> due(name + " with " + x, thrown(new TideHouse(), h -> call.on(h, x)), NOTHING));
        }
    }

    // No reading is like another one or like a level: sign 5 is TRUE everywhere, as in a new house.
    private static TideHouse fullHouse() {
        TideHouse house = new TideHouse();
        for (int row = 0; row < 8; row++) {
            for (int place = 0; place < 12; place++) {
                house.put(row, place, 12 * row + place);
            }
        }
        for (int gate = 0; gate < 4; gate++) {
            house.level(gate, false, 1000 + gate);
            house.level(gate, true, 1000 - gate);
        }
        return house;
    }

    private static void rows() {
        inside(callsOfRow(), 0, 3, 4, 7);
    }

    private static void noSuchRow() {
        outside(callsOfRow(), INDEX, -1, 8, -8, 16, Integer.MIN_VALUE, Integer.MAX_VALUE);
    }

    private static void places() {
        inside(callsOfPlace(), 0, 1, 10, 11);
    }

    private static void noSuchPlace() {
        outside(callsOfPlace(), INDEX, -1, 12, -12, 24, Integer.MIN_VALUE, Integer.MAX_VALUE);
    }

    private static void gates() {
        inside(callsOfGate(), 0, 1, 2, 3);
    }

    private static void noSuchGate() {
        outside(callsOfGate(), INDEX, -1, 4, -4, 8, Integer.MIN_VALUE, Integer.MAX_VALUE);
    }

    private static void signs() {
        inside(callsOfSign(), 0, 1, 2, 3, 4, 5);
        for (int sign = 0; sign < 6; sign++) {
            int s = sign;
            due("must with " + s, thrown(new TideHouse(), h -> h.must(0, 0, s, 0)), s == 5 ? NOTHING : STATE);
        }
    }

    private static void noSuchSign() {
        int[] outside = {-1, 6, -6, 12, Integer.MIN_VALUE, Integer.MAX_VALUE};
        outside(callsOfSign(), ARGUMENT, outside);
        outside(Map.of("must", (h, sign) -> h.must(0, 0, sign, 0)), ARGUMENT, outside);
    }

    private static Map<String, Call> callsOfNumber() {
        Map<String, Call> calls = new LinkedHashMap<>();
        calls.put("put at the first place", (h, number) -> h.put(0, 0, number));
        calls.put("put at the last place", (h, number) -> h.put(7, 11, number));
        calls.put("the first fine level", (h, number) -> h.level(0, false, number));
        calls.put("the last rough level", (h, number) -> h.level(3, true, number));
        return calls;
    }

    private static void numbers() {
        inside(callsOfNumber(), LEAST, LEAST + 1, -1, 0, 1, GREATEST - 1, GREATEST, NONE);
        for (int number : new int[] {LEAST, LEAST + 1, GREATEST - 1, GREATEST, NONE}) {
            due("reading", filled(3, number).reading(3, 11), number);
        }
    }

    private static void numberBeyond() {
        int[] beyond = {LEAST - 1, GREATEST + 1, NONE + 1, NONE + 2, Integer.MAX_VALUE, Integer.MAX_VALUE - 1};
        outside(callsOfNumber(), ARGUMENT, beyond);
    }

    // ---- what there is at first, and the two sorts

    private static void missingAtFirst() {
        TideHouse house = new TideHouse();
        for (int row = 0; row < 8; row++) {
            for (int place = 0; place < 12; place++) {
                due("reading(" + row + ", " + place + ")", house.reading(row, place), NONE);
            }
        }
    }

    private static void levelsAtFirst() {
        TideHouse house = new TideHouse();
        for (int gate = 0; gate < 4; gate++) {
            due("isOpen(" + gate + ")", house.isOpen(gate), false);
            due("fine level " + gate, house.level(gate, false, NONE), false);
            due("rough level " + gate, house.level(gate, true, NONE), false);
        }
        for (int row = 0; row < 8; row += 7) {
            TideHouse full = filled(row, 0);
            for (int gate = 0; gate < 4; gate++) {
                due("row " + row + " unlike level " + gate, full.straight(row, 5, gate), 12);
                due("row " + row + " like level " + gate, full.straight(row, 4, gate), 0);
            }
        }
    }

    private static void twoLevels() {
        for (int gate = 0; gate < 4; gate++) {
            for (int row = 0; row < 8; row++) {
                TideHouse house = filled(row, 0);
                due("fine level", house.level(gate, false, LEAST), true);
                due("rough level", house.level(gate, true, GREATEST), true);
                due("row " + row + " above level " + gate, house.straight(row, 2, gate), row <= 3 ? 12 : 0);
                due("row " + row + " below level " + gate, house.straight(row, 0, gate), row <= 3 ? 0 : 12);
                due("row " + row + ", level " + gate + " below", house.turned(row, 0, gate), row <= 3 ? 0 : 12);
                due("row " + row + " between", house.between(row, gate, gate), 12);
                int r = row;
                int g = gate;
                due("row " + row + " must be above", thrown(house, h -> h.must(r, 11, 2, g)), row <= 3 ? NOTHING : STATE);
                due("row " + row + " watched", house.watch(gate, row, false), row <= 3 ? 1 : 0);
                due("row " + row + " trusted", house.watch(gate, row, true), 0);
            }
        }
    }

    private static void oneSort() {
        for (int first = 0; first < 8; first++) {
            for (int second = 0; second < 8; second++) {
                int a = first;
                int b = second;
                String want = a <= 3 == b <= 3 ? NOTHING : ARGUMENT;
                due("copy " + a + " " + b, thrown(fullHouse(), h -> h.copy(a, b)), want);
                due("meet " + a + " " + b, thrown(fullHouse(), h -> h.meet(a, b, 0)), want);
                due("alike " + a + " " + b, thrown(fullHouse(), h -> h.alike(a, b)), want);
                for (int third = 0; third < 8; third++) {
                    int c = third;
                    boolean good = want.equals(NOTHING) && a <= 3 == c <= 3 && c != a && c != b;
                    due("merge " + a + " " + b + " " + c, thrown(fullHouse(), h -> h.merge(a, b, c, 0)), good ? NOTHING : ARGUMENT);
                }
            }
        }
    }

    private static void notesAtFirst() {
        for (int row = 0; row < 8; row++) {
            TideHouse house = new TideHouse();
            due("notes(" + row + ") at first", house.notes(row), 0);
            due("keep(" + row + ")", house.keep(row, 5), 11);
            due("notes(" + row + ") full", house.notes(row), 2047);
            for (int other = 0; other < 8; other++) {
                due("notes(" + other + ") by keep of " + row, house.notes(other), other == row ? 2047 : 0);
            }
        }
    }

    private static void missingIsTold() {
        due("MISSING", TideHouse.MISSING, -2147483648);
        TideHouse house = filled(0, 1);
        due("put of it", house.put(0, 11, -2147483648), true);
        due("reading of it", house.reading(0, 11), -2147483648);
        due("level of it", house.level(0, false, -2147483648), false);
        due("gaps with it", house.gaps(0), 1);
        due("must of it", house.must(0, 11, 5, 0), -2147483648);
    }

    // ---- the question

    private static final boolean[] OF_BELOW = {true, true, false, false, false, true};
    private static final boolean[] OF_ABOVE = {false, false, true, true, false, true};
    private static final boolean[] OF_SAME = {false, true, false, true, true, false};
    private static final boolean[] OF_MISSING = {false, false, false, false, false, true};

    private static void ofBelow() {
        question(LEAST, GREATEST, OF_BELOW);
        question(LEAST, LEAST + 1, OF_BELOW);
        question(GREATEST - 1, GREATEST, OF_BELOW);
        question(-1, 0, OF_BELOW);
        question(0, 1, OF_BELOW);
        question(-1, 1, OF_BELOW);
    }

    private static void ofAbove() {
        question(GREATEST, LEAST, OF_ABOVE);
        question(LEAST + 1, LEAST, OF_ABOVE);
        question(GREATEST, GREATEST - 1, OF_ABOVE);
        question(0, -1, OF_ABOVE);
        question(1, 0, OF_ABOVE);
        question(1, -1, OF_ABOVE);
    }

    private static void ofSame() {
        for (int number : new int[] {LEAST, -129, -1, 0, 1, 128, GREATEST}) {
            question(number, number, OF_SAME);
        }
    }

    private static void ofOneMissing() {
        for (int number : new int[] {LEAST, -1, 0, 1, GREATEST}) {
            question(number, NONE, OF_MISSING);
            question(NONE, number, OF_MISSING);
        }
    }

    private static void ofBothMissing() {
        question(NONE, NONE, OF_MISSING);
    }

    private static void question(int x, int y, boolean[] answers) {
        for (int sign = 0; sign < 6; sign++) {
            for (int row = 0; row <= 4; row += 4) {
                String what = "sign " + sign + " of " + x + " and " + y + " in row " + row + " by ";
                askLevel(what, row, sign, x, y, answers[sign]);
                askNext(what, row, sign, x, y, answers[sign]);
                askRows(what, row, sign, x, y, answers[sign]);
                askPick(what, row, sign, x, y, answers[sign]);
                askSettle(what, row, sign, x, y, answers[sign]);
            }
        }
        for (int row = 0; row <= 4; row += 4) {
            askGate("gate of " + x + " and " + y + " in row " + row + " ", row, x, y, answers);
        }
    }

    private static void askLevel(String what, int row, int sign, int x, int y, boolean answer) {
        TideHouse house = filled(row, x);
        fill(house, row + 1, y);
        house.level(2, row > 3, y);
        house.level(1, row > 3, x);
        due(what + "straight", house.straight(row, sign, 2), answer ? 12 : 0);
        due(what + "turned", house.turned(row + 1, sign, 1), answer ? 0 : 12);
        due(what + "must", thrown(house, h -> h.must(row, 11, sign, 2)), answer ? NOTHING : STATE);
        if (answer) {
            due(what + "must", house.must(row, 0, sign, 2), x);
        }
    }

    private static void askNext(String what, int row, int sign, int x, int y, boolean answer) {
        TideHouse house = new TideHouse();
        house.put(row, 10, x);
        house.put(row, 11, y);
        due(what + "climb", house.climb(row, 10, sign), answer ? 11 : 10);
        due(what + "drift", house.drift(row, 10, sign), answer ? 10 : 11);
        house.keep(row, sign);
        due(what + "keep", house.notes(row) >> 10, answer ? 1 : 0);
    }

    private static void askRows(String what, int row, int sign, int x, int y, boolean answer) {
        TideHouse house = filled(row, x);
        fill(house, row + 1, y);
        due(what + "meet", house.meet(row, row + 1, sign), answer ? 12 : 0);
        due(what + "merge", house.merge(row, row + 1, row + 2, sign), answer ? 12 : 0);
        due(what + "merge, first place", house.reading(row + 2, 0), answer ? x : y);
        due(what + "merge, last place", house.reading(row + 2, 11), answer ? x : y);
    }

    // Whichever of the y is held in the end, the x at the last place is asked against a y.
    private static void askPick(String what, int row, int sign, int x, int y, boolean answer) {
        TideHouse house = filled(row, y);
        house.put(row, 11, x);
        due(what + "pick", house.pick(row, sign) == 11, answer);
    }

    // The rest is MISSING: with sign 5 it goes all the way (2 + 3 + .. + 11 changes), else nowhere.
    private static void askSettle(String what, int row, int sign, int x, int y, boolean answer) {
        TideHouse house = new TideHouse();
        house.put(row, 0, y);
        house.put(row, 1, x);
        due(what + "settle", house.settle(row, sign), (sign == 5 ? 65 : 0) + (answer ? 1 : 0));
    }

    private static void askGate(String what, int row, int x, int y, boolean[] answers) {
        TideHouse house = filled(row, x);
        house.level(3, row > 3, y);
        house.watch(3, row, true);
        due(what + "trusting", house.isOpen(3), !answers[0]);
        house.watch(3, row, false);
        due(what + "doubting", house.isOpen(3), answers[3]);
        int inside = answers[3] && answers[1] ? 12 : 0;
        int outside = answers[0] || answers[2] ? 12 : 0;
        due(what + "between", house.between(row, 3, 3), 16 * inside + outside);
    }

    // ---- which exception comes first

    private static void first(String what, String exception, NoCall call) {
        due(what, thrown(new TideHouse(), call), exception);
        due(what + ", all full", thrown(fullHouse(), call), exception);
    }

    private static void indexBeforeArgument() {
        for (int low = 0; low < 2; low++) {
            int row = low == 0 ? -1 : 8;
            int place = low == 0 ? -1 : 12;
            int gate = low == 0 ? -1 : 4;
            int sign = low == 0 ? -1 : 6;
            int number = low == 0 ? LEAST - 1 : GREATEST + 1;
            first("put, row and number", INDEX, h -> h.put(row, 0, number));
            first("put, place and number", INDEX, h -> h.put(0, place, number));
            first("level, gate and number", INDEX, h -> h.level(gate, false, number));
            first("level, gate and number", INDEX, h -> h.level(gate, true, number));
            first("copy, row and sort", INDEX, h -> h.copy(row, ofOtherSort(row)));
            first("copy, row and sort", INDEX, h -> h.copy(ofOtherSort(row), row));
            first("straight, row and sign", INDEX, h -> h.straight(row, sign, 0));
            first("straight, gate and sign", INDEX, h -> h.straight(0, sign, gate));
            first("turned, row and sign", INDEX, h -> h.turned(row, sign, 0));
            first("turned, gate and sign", INDEX, h -> h.turned(0, sign, gate));
            first("must, row and sign", INDEX, h -> h.must(row, 0, sign, 0));
            first("must, place and sign", INDEX, h -> h.must(0, place, sign, 0));
            first("must, gate and sign", INDEX, h -> h.must(0, 0, sign, gate));
            first("climb, row and sign", INDEX, h -> h.climb(row, 0, sign));
            first("climb, place and sign", INDEX, h -> h.climb(0, place, sign));
            first("drift, row and sign", INDEX, h -> h.drift(row, 0, sign));
            first("drift, place and sign", INDEX, h -> h.drift(0, place, sign));
            first("pick, row and sign", INDEX, h -> h.pick(row, sign));
            first("keep, row and sign", INDEX, h -> h.keep(row, sign));
            first("settle, row and sign", INDEX, h -> h.settle(row, sign));
            first("meet, first and sign", INDEX, h -> h.meet(row, 0, sign));
            first("meet, second and sign", INDEX, h -> h.meet(0, row, sign));
            first("meet, first and sort", INDEX, h -> h.meet(row, ofOtherSort(row), 0));
            first("meet, second and sort", INDEX, h -> h.meet(ofOtherSort(row), row, 0));
            first("alike, first and sort", INDEX, h -> h.alike(row, ofOtherSort(row)));
            first("alike, second and sort", INDEX, h -> h.alike(ofOtherSort(row), row));
            first("merge, first and sign", INDEX, h -> h.merge(row, 0, 1, sign));
            first("merge, second and sign", INDEX, h -> h.merge(0, row, 1, sign));
            first("merge, third and sign", INDEX, h -> h.merge(0, 1, row, sign));
            first("merge, first and sort", INDEX, h -> h.merge(row, 0, 4, 0));
            first("merge, second and sort", INDEX, h -> h.merge(0, row, 4, 0));
            first("merge, third and sort", INDEX, h -> h.merge(0, 4, row, 0));
            first("merge, first, and third is second", INDEX, h -> h.merge(row, 1, 1, 0));
            first("merge, second, and third is first", INDEX, h -> h.merge(1, row, 1, 0));
            first("merge, third is first, both outside", INDEX, h -> h.merge(row, 0, row, 0));
            first("merge, third is second, both outside", INDEX, h -> h.merge(0, row, row, 0));
        }
    }

    // A row of the other sort than the one that a careless reading would give the row outside.
    private static int ofOtherSort(int outside) {
        return outside < 0 ? 7 : 0;
    }

    private static void argumentBeforeState() {
        TideHouse house = filled(0, 5);
        house.level(0, false, 5);
        for (int sign : new int[] {-1, 6, Integer.MIN_VALUE, Integer.MAX_VALUE}) {
            first("must, sign " + sign, ARGUMENT, h -> h.must(0, 0, sign, 0));
            due("must, sign " + sign + ", both the same", thrown(house, h -> h.must(0, 0, sign, 0)), ARGUMENT);
        }
    }

    private static void indexBeforeState() {
        for (int sign = 0; sign < 6; sign++) {
            int s = sign;
            first("must, row -1, sign " + s, INDEX, h -> h.must(-1, 0, s, 0));
            first("must, row 8, sign " + s, INDEX, h -> h.must(8, 0, s, 0));
            first("must, place -1, sign " + s, INDEX, h -> h.must(7, -1, s, 0));
            first("must, place 12, sign " + s, INDEX, h -> h.must(0, 12, s, 0));
            first("must, gate -1, sign " + s, INDEX, h -> h.must(0, 0, s, -1));
            first("must, gate 4, sign " + s, INDEX, h -> h.must(0, 0, s, 4));
        }
    }

    public static void main(String[] args) {
        test("ROWS 0 to 7", TermsTest::rows);
        test("IndexOutOfBoundsException: there is no such ROW", TermsTest::noSuchRow);
        test("12 PLACES (0 to 11)", TermsTest::places);
        test("IndexOutOfBoundsException: there is no such PLACE", TermsTest::noSuchPlace);
        test("GATES 0 to 3", TermsTest::gates);
        test("IndexOutOfBoundsException: there is no such GATE", TermsTest::noSuchGate);
        test("A QUESTION has a SIGN: 0 to 5", TermsTest::signs);
        test("IllegalArgumentException: a SIGN is none", TermsTest::noSuchSign);
        test("a number of eighths, -8000000 to 8000000 of them, or it is MISSING", TermsTest::numbers);
        test("IllegalArgumentException: a number is beyond", TermsTest::numberBeyond);
        test("A READING is MISSING (at first)", TermsTest::missingAtFirst);
        test("LEVELS are MISSING (at first), a GATE is shut (at first)", TermsTest::levelsAtFirst);
        test("FINE ones (0 to 3) and ROUGH ones (4 to 7); THE LEVEL is that for its sort", TermsTest::twoLevels);
        test("ROWS of one sort: both FINE, or both ROUGH", TermsTest::oneSort);
        test("NOTES of a ROW are 11 bits, 0 at first", TermsTest::notesAtFirst);
        test("MISSING is told as -2147483648", TermsTest::missingIsTold);
        test("Of two numbers it is TRUE as they are: x is below y", TermsTest::ofBelow);
        test("Of two numbers it is TRUE as they are: x is above y", TermsTest::ofAbove);
        test("Of two numbers it is TRUE as they are: both are the same", TermsTest::ofSame);
        test("If one of both is MISSING no QUESTION is TRUE but 5", TermsTest::ofOneMissing);
        test("or both are, no QUESTION is TRUE but 5", TermsTest::ofBothMissing);
        test("Of several the first behind throws: IndexOutOfBounds, then IllegalArgument", TermsTest::indexBeforeArgument);
        test("Of several the first behind throws: IllegalArgument, then IllegalState", TermsTest::argumentBeforeState);
        test("Of several the first behind throws: IndexOutOfBounds, then IllegalState", TermsTest::indexBeforeState);
        System.out.println(wrong == 0 ? "all terms are kept" : wrong + " answers are not as due");
        if (wrong != 0) {
            System.exit(1);
        }
    }
}
