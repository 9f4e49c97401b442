import java.util.Arrays;

/** Each promise of the document by itself: ordinary inputs, the edges that it names, wrong inputs. */
public final class PromiseTest {
    private static final int NONE = TideHouse.MISSING;
    private static final int MOST = 8000000;
    private static final int[] OUTSIDE_ROWS = {-1, 8, Integer.MIN_VALUE, Integer.MAX_VALUE};
    private static final int[] OUTSIDE_PLACES = {-1, 12, Integer.MIN_VALUE, Integer.MAX_VALUE};
    private static final int[] OUTSIDE_GATES = {-1, 4, Integer.MIN_VALUE, Integer.MAX_VALUE};
    private static final int[] OUTSIDE_SIGNS = {-1, 6, Integer.MIN_VALUE, Integer.MAX_VALUE};
    private static final int[] OUTSIDE_NUMBERS = {-MOST - 1, MOST + 1, Integer.MIN_VALUE + 1, Integer.MAX_VALUE};
    private static final String INDEX = "IndexOutOfBoundsException";
    private static final String ARGUMENT = "IllegalArgumentException";
    private static final String STATE = "IllegalStateException";

    // Ups, downs, pairs of the same number, and gaps at a start, side by side and at the end.
    private static final int[] MIXED = {NONE, 8, 16, 16, 0, NONE, NONE, -8, 24, 24, 8, NONE};
    private static final int[] RISING = {-40, -32, -24, -16, -8, 0, 8, 16, 24, 32, 40, 48};

    private static int wrong = 0;
    private static String promise = "";

    private interface Call {
        Object on(TideHouse house);
    }

    private static void due(String what, Object got, Object want) {
        if (!got.equals(want)) {
            wrong++;
            System.out.println(promise + ": " + what + " answered " + got + ", due is " + want);
        }
    }

    private static String thrown(TideHouse house, Call call) {
        try {
            return "nothing, but answered " + call.on(house);
        } catch (RuntimeException e) {
            return e.getClass().getSimpleName();
        }
    }

    private static void fill(TideHouse house, int row, int... numbers) {
        for (int place = 0; place < numbers.length; place++) {
            house.put(row, place, numbers[place]);
        }
    }

    private static TideHouse with(int row, int... numbers) {
        TideHouse house = new TideHouse();
        fill(house, row, numbers);
        return house;
    }

    private static String told(TideHouse house, int row) {
        int[] numbers = new int[12];
        for (int place = 0; place < 12; place++) {
            numbers[place] = house.reading(row, place);
        }
        return Arrays.toString(numbers);
    }

    private static String text(int... numbers) {
        return Arrays.toString(Arrays.copyOf(numbers, 12));
    }

    // A house whose every part differs from a new one's, so that any change by a refused call shows.
    private static TideHouse busyHouse() {
        TideHouse house = new TideHouse();
        for (int row = 0; row < 8; row++) {
            for (int place = 0; place < 12; place++) {
                house.put(row, place, busyReading(row, place));
            }
            house.keep(row, row % 6);
        }
        for (int gate = 0; gate < 4; gate++) {
            house.level(gate, false, 8 * gate + 1);
            house.level(gate, true, -8 * gate - 1);
        }
        house.watch(1, 0, true);
        house.watch(3, 7, true);
        return house;
    }

    private static int busyReading(int row, int place) {
        return (row + place) % 5 == 3 ? NONE : (7 * row + 5 * place * place) % 31 - 10;
    }

    // The levels can't be read; asked to become what they are, they tell that this is no other one.
    private static String state(TideHouse house) {
        StringBuilder text = new StringBuilder();
        for (int row = 0; row < 8; row++) {
            text.append(told(house, row)).append(house.notes(row)).append(';');
        }
        for (int gate = 0; gate < 4; gate++) {
            text.append(house.isOpen(gate));
            text.append(house.level(gate, false, 8 * gate + 1)).append(house.level(gate, true, -8 * gate - 1));
        }
        return text.toString();
    }

    private static void refuses(String what, String exception, Call call) {
        TideHouse house = busyHouse();
        String before = state(house);
        due(what, thrown(house, call), exception);
        due("the state behind " + what, state(house), before);
        due("a new house's " + what, thrown(new TideHouse(), call), exception);
    }

    private static void newObject() {
        TideHouse house = new TideHouse();
        for (int row = 0; row < 8; row++) {
            due("told", told(house, row), text(NONE, NONE, NONE, NONE, NONE, NONE, NONE, NONE, NONE, NONE, NONE, NONE));
            due("notes", house.notes(row), 0);
            due("gaps", house.gaps(row), 12);
        }
        for (int gate = 0; gate < 4; gate++) {
            due("isOpen", house.isOpen(gate), false);
            due("fine level is missing", house.level(gate, false, NONE), false);
            due("rough level is missing", house.level(gate, true, NONE), false);
        }
        new TideHouse().put(0, 0, 5);
        due("another object's reading", house.reading(0, 0), NONE);
    }

    private static void put() {
        TideHouse house = new TideHouse();
        due("missing for missing", house.put(0, 0, NONE), false);
        due("number for missing", house.put(0, 0, 0), true);
        due("same number", house.put(0, 0, 0), false);
        due("another number", house.put(0, 0, 1), true);
        due("missing for number", house.put(0, 0, NONE), true);
        due("least number", house.put(7, 11, -MOST), true);
        due("its reading", house.reading(7, 11), -MOST);
        due("greatest number", house.put(7, 11, MOST), true);
        due("its reading", house.reading(7, 11), MOST);
        due("one less", house.put(7, 11, MOST - 1), true);
        due("its reading", house.reading(7, 11), MOST - 1);
        due("gaps of its row", house.gaps(7), 11);
        for (int row : OUTSIDE_ROWS) {
            refuses("put row " + row, INDEX, h -> h.put(row, 0, 0));
            refuses("put row and number " + row, INDEX, h -> h.put(row, 0, MOST + 1));
        }
        for (int place : OUTSIDE_PLACES) {
            refuses("put place " + place, INDEX, h -> h.put(0, place, 0));
            refuses("put place and number " + place, INDEX, h -> h.put(7, place, MOST + 1));
        }
        for (int number : OUTSIDE_NUMBERS) {
            refuses("put number " + number, ARGUMENT, h -> h.put(7, 11, number));
        }
    }

    private static void reading() {
        TideHouse house = new TideHouse();
        for (int row = 0; row < 8; row++) {
            for (int place = 0; place < 12; place++) {
                house.put(row, place, 100 * row + place);
            }
        }
        for (int row = 0; row < 8; row++) {
            for (int place = 0; place < 12; place++) {
                due("reading(" + row + ", " + place + ")", house.reading(row, place), 100 * row + place);
            }
        }
        house.put(4, 3, NONE);
        due("missing", house.reading(4, 3), -2147483648);
        for (int row : OUTSIDE_ROWS) {
            refuses("reading row " + row, INDEX, h -> h.reading(row, 0));
        }
        for (int place : OUTSIDE_PLACES) {
            refuses("reading place " + place, INDEX, h -> h.reading(0, place));
        }
    }

    private static void level() {
        TideHouse house = with(0, 8);
        house.put(4, 0, 8);
        due("missing for missing", house.level(0, false, NONE), false);
        due("number for missing", house.level(0, false, 8), true);
        due("same number", house.level(0, false, 8), false);
        due("fine row sees it", house.straight(0, 4, 0), 1);
        due("rough row does not", house.straight(4, 4, 0), 0);
        due("another gate does not", house.straight(0, 4, 1), 0);
        due("rough level by itself", house.level(0, true, 8), true);
        due("rough row sees it", house.straight(4, 4, 0), 1);
        due("missing for number", house.level(0, false, NONE), true);
        due("fine row sees no level", house.straight(0, 4, 0), 0);
        due("rough level stays", house.straight(4, 4, 0), 1);
        due("least", house.level(3, true, -MOST), true);
        due("greatest", house.level(3, true, MOST), true);
        due("it opens nothing", house.isOpen(0), false);
        for (int gate : OUTSIDE_GATES) {
            refuses("level gate " + gate, INDEX, h -> h.level(gate, false, 0));
            refuses("level gate and number " + gate, INDEX, h -> h.level(gate, true, MOST + 1));
        }
        for (int number : OUTSIDE_NUMBERS) {
            refuses("level fine " + number, ARGUMENT, h -> h.level(0, false, number));
            refuses("level rough " + number, ARGUMENT, h -> h.level(3, true, number));
        }
    }

    private static void copy() {
        TideHouse house = with(0, MIXED);
        fill(house, 3, RISING);
        house.keep(3, 0);
        house.keep(0, 2);
        int kept = house.notes(0);
        due("copy of mixed", house.copy(0, 3), 4);
        due("copied", told(house, 3), text(MIXED));
        due("source", told(house, 0), text(MIXED));
        due("notes stay", house.notes(3), 2047);
        due("notes of the source stay", house.notes(0), kept);
        due("of itself", house.copy(3, 3), 4);
        due("itself", told(house, 3), text(MIXED));
        house.put(3, 0, 77);
        due("the source is no other name", house.reading(0, 0), NONE);
        due("all missing", house.copy(1, 0), 12);
        due("all missing told", house.gaps(0), 12);
        fill(house, 4, RISING);
        due("rough", house.copy(4, 7), 0);
        due("rough told", told(house, 7), text(RISING));
        refuses("copy fine to rough", ARGUMENT, h -> h.copy(3, 4));
        refuses("copy rough to fine", ARGUMENT, h -> h.copy(4, 3));
        for (int row : OUTSIDE_ROWS) {
            refuses("copy from " + row, INDEX, h -> h.copy(row, 0));
            refuses("copy from, beside rough " + row, INDEX, h -> h.copy(row, 7));
            refuses("copy to " + row, INDEX, h -> h.copy(0, row));
            refuses("copy to, beside rough " + row, INDEX, h -> h.copy(7, row));
        }
    }

    private static void straight() {
        TideHouse house = with(2, MIXED);
        fill(house, 5, MIXED);
        house.level(1, false, 16);
        int[] fine = {4, 6, 2, 4, 2, 10};
        int[] none = {0, 0, 0, 0, 0, 12};
        for (int sign = 0; sign < 6; sign++) {
            due("fine, sign " + sign, house.straight(2, sign, 1), fine[sign]);
            due("rough, level missing, sign " + sign, house.straight(5, sign, 1), none[sign]);
            due("row missing, sign " + sign, house.straight(0, sign, 1), none[sign]);
            due("both missing, sign " + sign, house.straight(0, sign, 0), none[sign]);
        }
        house.level(1, true, -8);
        int[] rough = {0, 1, 7, 8, 1, 11};
        for (int sign = 0; sign < 6; sign++) {
            due("rough, sign " + sign, house.straight(5, sign, 1), rough[sign]);
        }
        due("nothing is open", house.isOpen(1), false);
        refusesRowSignGate("straight", (h, row, sign, gate) -> h.straight(row, sign, gate));
    }

    private static void turned() {
        TideHouse house = with(2, MIXED);
        fill(house, 5, MIXED);
        house.level(1, false, 16);
        int[] fine = {10, 8, 8, 6, 10, 2};
        int[] none = {12, 12, 12, 12, 12, 0};
        for (int sign = 0; sign < 6; sign++) {
            due("fine, sign " + sign, house.turned(2, sign, 1), fine[sign]);
            due("rough, level missing, sign " + sign, house.turned(5, sign, 1), none[sign]);
            due("row missing, sign " + sign, house.turned(0, sign, 1), none[sign]);
            due("both missing, sign " + sign, house.turned(0, sign, 0), none[sign]);
        }
        house.level(1, true, -8);
        int[] rough = {5, 4, 12, 11, 11, 1};
        for (int sign = 0; sign < 6; sign++) {
            due("rough, sign " + sign, house.turned(5, sign, 1), rough[sign]);
        }
        refusesRowSignGate("turned", (h, row, sign, gate) -> h.turned(row, sign, gate));
    }

    private interface ThreeInts {
        Object on(TideHouse house, int first, int second, int third);
    }

    private static void refusesRowSignGate(String name, ThreeInts call) {
        for (int row : OUTSIDE_ROWS) {
            refuses(name + " row " + row, INDEX, h -> call.on(h, row, 0, 0));
            refuses(name + " row and sign " + row, INDEX, h -> call.on(h, row, 6, 0));
        }
        for (int gate : OUTSIDE_GATES) {
            refuses(name + " gate " + gate, INDEX, h -> call.on(h, 0, 0, gate));
            refuses(name + " gate and sign " + gate, INDEX, h -> call.on(h, 0, 6, gate));
        }
        for (int sign : OUTSIDE_SIGNS) {
            refuses(name + " sign " + sign, ARGUMENT, h -> call.on(h, 0, sign, 0));
        }
    }

    private static void between() {
        TideHouse house = with(0, MIXED);
        fill(house, 4, MIXED);
        due("no levels", house.between(0, 0, 1), 0);
        house.level(0, false, 8);
        due("no high level: below alone", house.between(0, 0, 1), 2);
        due("no low level: above alone", house.between(0, 1, 0), 4);
        house.level(1, false, 16);
        due("both levels", house.between(0, 0, 1), 16 * 4 + 4);
        due("levels crossed", house.between(0, 1, 0), 8);
        due("one gate twice", house.between(0, 0, 0), 16 * 2 + 6);
        due("rough levels are others", house.between(4, 0, 1), 0);
        house.level(0, true, -MOST);
        house.level(1, true, MOST);
        due("rough", house.between(4, 0, 1), 16 * 8);
        house.put(0, 0, 12);
        house.put(4, 5, MOST);
        house.put(4, 6, -MOST);
        due("one more", house.between(0, 0, 1), 16 * 5 + 4);
        due("edges are inside", house.between(4, 0, 1), 16 * 10);
        due("full row without levels", with(1, RISING).between(1, 2, 3), 0);
        fill(house, 1, RISING);
        fill(house, 2, RISING);
        due("full row, its neighbour full too", house.between(1, 0, 1), 16 * 2 + 10);
        for (int row : OUTSIDE_ROWS) {
            refuses("between row " + row, INDEX, h -> h.between(row, 0, 0));
        }
        for (int gate : OUTSIDE_GATES) {
            refuses("between low " + gate, INDEX, h -> h.between(0, gate, 0));
            refuses("between high " + gate, INDEX, h -> h.between(0, 0, gate));
        }
    }

    private static void must() {
        TideHouse house = with(0, NONE, 8, 9);
        house.put(4, 1, 8);
        house.level(2, false, 8);
        String[] ofMissing = {STATE, STATE, STATE, STATE, STATE, "" + NONE};
        String[] ofSame = {STATE, "8", STATE, "8", "8", STATE};
        String[] ofAbove = {STATE, STATE, "9", "9", STATE, "9"};
        String[] ofNoLevel = {STATE, STATE, STATE, STATE, STATE, "8"};
        for (int sign = 0; sign < 6; sign++) {
            due("missing, sign " + sign, mustText(house, 0, 0, sign), ofMissing[sign]);
            due("same, sign " + sign, mustText(house, 0, 1, sign), ofSame[sign]);
            due("above, sign " + sign, mustText(house, 0, 2, sign), ofAbove[sign]);
            due("rough level is missing, sign " + sign, mustText(house, 4, 1, sign), ofNoLevel[sign]);
        }
        house.level(2, false, 10);
        due("below", house.must(0, 2, 0, 2), 9);
        refuses("must, not true", STATE, h -> h.must(0, 0, 2, 3));
        for (int row : OUTSIDE_ROWS) {
            refuses("must row " + row, INDEX, h -> h.must(row, 0, 5, 0));
            refuses("must row and sign " + row, INDEX, h -> h.must(row, 0, 6, 0));
        }
        for (int place : OUTSIDE_PLACES) {
            refuses("must place " + place, INDEX, h -> h.must(0, place, 5, 0));
            refuses("must place and sign " + place, INDEX, h -> h.must(0, place, 6, 0));
        }
        for (int gate : OUTSIDE_GATES) {
            refuses("must gate " + gate, INDEX, h -> h.must(0, 0, 5, gate));
            refuses("must gate and sign " + gate, INDEX, h -> h.must(0, 0, 6, gate));
        }
        for (int sign : OUTSIDE_SIGNS) {
            refuses("must sign " + sign, ARGUMENT, h -> h.must(0, 0, sign, 0));
        }
    }

    private static String mustText(TideHouse house, int row, int place, int sign) {
        try {
            return "" + house.must(row, place, sign, 2);
        } catch (RuntimeException e) {
            return e.getClass().getSimpleName();
        }
    }

    private static void watch() {
        TideHouse house = with(0, MIXED);
        fill(house, 4, MIXED);
        house.level(0, false, 8);
        due("trusting", house.watch(0, 0, true), 5);
        due("open in the end", house.isOpen(0), true);
        due("trusting once more", house.watch(0, 0, true), 4);
        due("doubting from open", house.watch(0, 0, false), 5);
        due("shut in the end", house.isOpen(0), false);
        due("doubting from shut", house.watch(0, 0, false), 4);
        due("no rough level, doubting, shut", house.watch(0, 4, false), 0);
        due("no rough level, trusting", house.watch(0, 4, true), 1);
        due("open by trust", house.isOpen(0), true);
        due("no rough level, trusting, open", house.watch(0, 4, true), 0);
        due("no rough level, doubting, open", house.watch(0, 4, false), 1);
        due("shut by doubt", house.isOpen(0), false);
        house.level(0, true, 24);
        due("rough level, doubting", house.watch(0, 4, false), 2);
        due("rough level, trusting", house.watch(0, 4, true), 7);
        due("other gates stay shut", house.isOpen(1) || house.isOpen(2) || house.isOpen(3), false);
        due("readings stay", told(house, 0), text(MIXED));
        for (int gate : OUTSIDE_GATES) {
            refuses("watch gate " + gate, INDEX, h -> h.watch(gate, 0, true));
        }
        for (int row : OUTSIDE_ROWS) {
            refuses("watch row " + row, INDEX, h -> h.watch(0, row, true));
            refuses("watch row, doubting " + row, INDEX, h -> h.watch(1, row, false));
        }
    }

    private static void isOpen() {
        TideHouse house = with(7, RISING);
        house.level(3, true, 48);
        due("at first", house.isOpen(3), false);
        due("the last reading opens", house.watch(3, 7, false), 1);
        due("open", house.isOpen(3), true);
        house.level(3, true, 49);
        house.put(7, 11, NONE);
        due("open, whatever is told later", house.isOpen(3), true);
        due("others", house.isOpen(0) || house.isOpen(1) || house.isOpen(2), false);
        due("all below", house.watch(3, 7, false), 1);
        due("shut", house.isOpen(3), false);
        for (int gate : OUTSIDE_GATES) {
            refuses("isOpen gate " + gate, INDEX, h -> h.isOpen(gate));
        }
    }

    private static void climb() {
        TideHouse house = with(6, RISING);
        fill(house, 1, MIXED);
        int[] fromStart = {11, 11, 0, 0, 0, 11};
        int[] fromOne = {2, 3, 1, 1, 1, 2};
        int[] fromNone = {0, 0, 0, 0, 0, 2};
        int[] fromSame = {2, 3, 2, 4, 3, 2};
        int[] fromTop = {9, 9, 10, 10, 9, 11};
        for (int sign = 0; sign < 6; sign++) {
            due("rising, sign " + sign, house.climb(6, 0, sign), fromStart[sign]);
            due("mixed from 1, sign " + sign, house.climb(1, 1, sign), fromOne[sign]);
            due("mixed from 0, sign " + sign, house.climb(1, 0, sign), fromNone[sign]);
            due("mixed from 2, sign " + sign, house.climb(1, 2, sign), fromSame[sign]);
            due("mixed from 9, sign " + sign, house.climb(1, 9, sign), fromTop[sign]);
            due("last place, sign " + sign, house.climb(6, 11, sign), 11);
            due("all missing, sign " + sign, house.climb(0, 3, sign), sign == 5 ? 11 : 3);
        }
        refusesRowPlaceSign("climb", (h, row, place, sign) -> h.climb(row, place, sign));
    }

    private static void drift() {
        TideHouse house = with(6, RISING);
        fill(house, 1, MIXED);
        int[] fromStart = {0, 0, 11, 11, 11, 0};
        int[] fromOne = {1, 1, 3, 2, 2, 1};
        int[] fromNone = {1, 1, 3, 2, 2, 0};
        int[] fromSame = {7, 2, 3, 2, 2, 3};
        int[] fromTop = {11, 11, 9, 9, 11, 9};
        for (int sign = 0; sign < 6; sign++) {
            due("rising, sign " + sign, house.drift(6, 0, sign), fromStart[sign]);
            due("mixed from 1, sign " + sign, house.drift(1, 1, sign), fromOne[sign]);
            due("mixed from 0, sign " + sign, house.drift(1, 0, sign), fromNone[sign]);
            due("mixed from 2, sign " + sign, house.drift(1, 2, sign), fromSame[sign]);
            due("mixed from 9, sign " + sign, house.drift(1, 9, sign), fromTop[sign]);
            due("last place, sign " + sign, house.drift(6, 11, sign), 11);
            due("all missing, sign " + sign, house.drift(0, 3, sign), sign == 5 ? 3 : 11);
        }
        refusesRowPlaceSign("drift", (h, row, place, sign) -> h.drift(row, place, sign));
    }

    private static void refusesRowPlaceSign(String name, ThreeInts call) {
        for (int row : OUTSIDE_ROWS) {
            refuses(name + " row " + row, INDEX, h -> call.on(h, row, 0, 0));
            refuses(name + " row and sign " + row, INDEX, h -> call.on(h, row, 0, 6));
        }
        for (int place : OUTSIDE_PLACES) {
            refuses(name + " place " + place, INDEX, h -> call.on(h, 0, place, 0));
            refuses(name + " place and sign " + place, INDEX, h -> call.on(h, 0, place, 6));
        }
        for (int sign : OUTSIDE_SIGNS) {
            refuses(name + " sign " + sign, ARGUMENT, h -> call.on(h, 0, 11, sign));
        }
    }

    private static void pick() {
        TideHouse house = with(0, 8, 16, -8, NONE, 16, -8, 24, 8, 24, NONE, 0, 8);
        fill(house, 4, MIXED);
        int[] mixed = {2, 5, 6, 8, 11, 11};
        int[] missingFirst = {0, 0, 0, 0, 0, 11};
        for (int sign = 0; sign < 6; sign++) {
            due("sign " + sign, house.pick(0, sign), mixed[sign]);
            due("missing is held, sign " + sign, house.pick(4, sign), missingFirst[sign]);
            due("all missing, sign " + sign, house.pick(7, sign), sign == 5 ? 11 : 0);
        }
        due("unlike, back and forth", with(1, 5, 5, 6, 6, 5, 5, 5, 5, 5, 5, 5, 5).pick(1, 5), 4);
        due("place 1 is the least", with(2, 1, 0, 2, 3, 4, 5, 6, 7, 8, 9, 10, 11).pick(2, 0), 1);
        due("place 1 is the last to be above", with(2, 1, 2).pick(2, 2), 1);
        due("readings stay", told(house, 4), text(MIXED));
        refusesRowSign("pick", (h, row, sign) -> h.pick(row, sign));
    }

    private interface TwoInts {
        Object on(TideHouse house, int first, int second);
    }

    private static void refusesRowSign(String name, TwoInts call) {
        for (int row : OUTSIDE_ROWS) {
            refuses(name + " row " + row, INDEX, h -> call.on(h, row, 0));
            refuses(name + " row and sign " + row, INDEX, h -> call.on(h, row, 6));
        }
        for (int sign : OUTSIDE_SIGNS) {
            refuses(name + " sign " + sign, ARGUMENT, h -> call.on(h, 5, sign));
        }
    }

    private static void keep() {
        TideHouse house = with(3, MIXED);
        int[] bits = {
            1 << 1 | 1 << 7,
            1 << 1 | 1 << 2 | 1 << 7 | 1 << 8,
            1 << 3 | 1 << 9,
            1 << 2 | 1 << 3 | 1 << 8 | 1 << 9,
            1 << 2 | 1 << 8,
            2047 - (1 << 2 | 1 << 8),
        };
        for (int sign = 0; sign < 6; sign++) {
            due("count, sign " + sign, house.keep(3, sign), Integer.bitCount(bits[sign]));
            due("notes, sign " + sign, house.notes(3), bits[sign]);
            due("missing, sign " + sign, house.keep(4, sign), sign == 5 ? 11 : 0);
            due("notes of missing, sign " + sign, house.notes(4), sign == 5 ? 2047 : 0);
        }
        due("other rows' notes", house.notes(0) + house.notes(2) + house.notes(5), 0);
        due("readings stay", told(house, 3), text(MIXED));
        due("rising", with(7, RISING).keep(7, 0), 11);
        refusesRowSign("keep", (h, row, sign) -> h.keep(row, sign));
    }

    private static void notes() {
        TideHouse house = with(0, RISING);
        fill(house, 1, MIXED);
        due("at first", house.notes(0), 0);
        house.keep(0, 0);
        due("kept", house.notes(0), 2047);
        house.put(0, 5, NONE);
        due("behind put", house.notes(0), 2047);
        house.copy(1, 0);
        due("behind copy", house.notes(0), 2047);
        house.settle(0, 0);
        due("behind settle", house.notes(0), 2047);
        house.merge(1, 2, 0, 5);
        due("behind merge", house.notes(0), 2047);
        house.keep(0, 4);
        due("kept anew", house.notes(0), 1 << 2 | 1 << 8);
        due("the other's", house.notes(1), 0);
        for (int row : OUTSIDE_ROWS) {
            refuses("notes row " + row, INDEX, h -> h.notes(row));
        }
    }

    private static void gaps() {
        TideHouse house = with(0, MIXED);
        fill(house, 7, RISING);
        due("mixed", house.gaps(0), 4);
        due("none", house.gaps(7), 0);
        due("all", house.gaps(6), 12);
        house.put(7, 11, NONE);
        due("one at the end", house.gaps(7), 1);
        house.put(0, 0, 0);
        due("one less", house.gaps(0), 3);
        for (int row : OUTSIDE_ROWS) {
            refuses("gaps row " + row, INDEX, h -> h.gaps(row));
        }
    }

    private static void settled(int sign, int want, int[] before, int... after) {
        for (int row = 0; row < 8; row += 7) {
            TideHouse house = with(row, before);
            fill(house, 3, RISING);
            house.keep(row, 5);
            int kept = house.notes(row);
            due("changes in row " + row + ", sign " + sign, house.settle(row, sign), want);
            due("row " + row + ", sign " + sign, told(house, row), text(after));
            due("another row", told(house, 3), text(RISING));
            due("notes", house.notes(row), kept);
        }
    }

    private static void settle() {
        settled(0, 5, MIXED, NONE, 0, 8, 16, 16, NONE, NONE, -8, 8, 24, 24, NONE);
        settled(2, 5, MIXED, NONE, 16, 16, 8, 0, NONE, NONE, 24, 24, 8, -8, NONE);
        settled(1, 7, MIXED, NONE, 0, 8, 16, 16, NONE, NONE, -8, 8, 24, 24, NONE);
        settled(3, 7, MIXED, NONE, 16, 16, 8, 0, NONE, NONE, 24, 24, 8, -8, NONE);
        settled(4, 2, MIXED, MIXED);
        settled(0, 0, RISING, RISING);
        settled(1, 0, RISING, RISING);
        settled(2, 66, RISING, 48, 40, 32, 24, 16, 8, 0, -8, -16, -24, -32, -40);
        settled(5, 66, RISING, 48, 40, 32, 24, 16, 8, 0, -8, -16, -24, -32, -40);
        settled(5, 34, new int[] {1, 1, 2, NONE, NONE, 1, 3, 3, 3, 2, 1, 2},
            3, 3, 3, NONE, NONE, 2, 2, 2, 1, 1, 1, 1);
        due("all missing, unlike", new TideHouse().settle(5, 5), 66);
        due("all missing, same", new TideHouse().settle(5, 4), 0);
        refusesRowSign("settle", (h, row, sign) -> h.settle(row, sign));
    }

    private static void meet() {
        TideHouse house = with(4, 1, 2, 3, NONE, 5, NONE, -7, 8, 9, 10, 11, 12);
        fill(house, 7, 1, 3, 2, 4, NONE, NONE, -8, 8, 9, 11, 12, 13);
        int[] there = {4, 7, 2, 5, 3, 9};
        int[] back = {2, 5, 4, 7, 3, 9};
        int[] itself = {0, 10, 0, 10, 10, 2};
        for (int sign = 0; sign < 6; sign++) {
            due("there, sign " + sign, house.meet(4, 7, sign), there[sign]);
            due("back, sign " + sign, house.meet(7, 4, sign), back[sign]);
            due("itself, sign " + sign, house.meet(4, 4, sign), itself[sign]);
            due("missing, sign " + sign, house.meet(0, 3, sign), sign == 5 ? 12 : 0);
        }
        refuses("meet fine and rough", ARGUMENT, h -> h.meet(3, 4, 0));
        refuses("meet rough and fine", ARGUMENT, h -> h.meet(4, 3, 0));
        for (int row : OUTSIDE_ROWS) {
            refuses("meet row " + row, INDEX, h -> h.meet(row, 0, 0));
            refuses("meet row, beside rough " + row, INDEX, h -> h.meet(row, 7, 6));
            refuses("meet other " + row, INDEX, h -> h.meet(0, row, 0));
            refuses("meet other, beside rough " + row, INDEX, h -> h.meet(7, row, 6));
        }
        for (int sign : OUTSIDE_SIGNS) {
            refuses("meet sign " + sign, ARGUMENT, h -> h.meet(0, 1, sign));
            refuses("meet sign and sort " + sign, ARGUMENT, h -> h.meet(0, 7, sign));
        }
    }

    private static void alike() {
        TideHouse house = with(0, MIXED);
        fill(house, 3, MIXED);
        fill(house, 4, RISING);
        due("same", house.alike(0, 3), true);
        due("itself", house.alike(0, 0), true);
        due("all missing", house.alike(1, 2), true);
        due("missing and mixed", house.alike(0, 1), false);
        due("rough, unlike", house.alike(4, 7), false);
        house.copy(4, 7);
        due("rough, copied", house.alike(4, 7), true);
        house.put(3, 11, 0);
        due("number for missing at the end", house.alike(0, 3), false);
        due("turned round", house.alike(3, 0), false);
        house.put(3, 11, NONE);
        house.put(3, 1, NONE);
        due("missing for number", house.alike(0, 3), false);
        house.put(3, 1, 8);
        house.put(3, 0, 1);
        due("number at the start", house.alike(0, 3), false);
        refuses("alike fine and rough", ARGUMENT, h -> h.alike(3, 4));
        refuses("alike rough and fine", ARGUMENT, h -> h.alike(4, 3));
        for (int row : OUTSIDE_ROWS) {
            refuses("alike row " + row, INDEX, h -> h.alike(row, 0));
            refuses("alike row, beside rough " + row, INDEX, h -> h.alike(row, 7));
            refuses("alike other " + row, INDEX, h -> h.alike(0, row));
            refuses("alike other, beside rough " + row, INDEX, h -> h.alike(7, row));
        }
    }

    private static void merge() {
        TideHouse house = with(0, 1, 3, 5, 7, NONE, 9, 11, 13, 15, 17, 19, 21);
        fill(house, 1, 2, 3, 6, 8, 10, 12, 14, 16, 18, 20, 22, 24);
        due("below", house.merge(0, 1, 2, 0), 4);
        due("below, told", told(house, 2), text(1, 2, 3, 3, 5, 6, 7, 8, 10, 12, 14, 16));
        due("not above", house.merge(0, 1, 2, 1), 4);
        due("above", house.merge(0, 1, 2, 2), 0);
        due("above, told", told(house, 2), text(2, 3, 6, 8, 10, 12, 14, 16, 18, 20, 22, 24));
        due("unlike", house.merge(0, 1, 3, 5), 12);
        due("unlike, told", told(house, 3), told(house, 0));
        due("first row stays", told(house, 0), text(1, 3, 5, 7, NONE, 9, 11, 13, 15, 17, 19, 21));
        due("second row stays", told(house, 1), text(2, 3, 6, 8, 10, 12, 14, 16, 18, 20, 22, 24));
        due("a row with itself, same", house.merge(0, 0, 3, 4), 4);
        due("a row with itself, told", told(house, 3), text(1, 1, 3, 3, 5, 5, 7, 7, NONE, 9, 11, 13));
        fill(house, 5, MIXED);
        due("missing, not below", house.merge(6, 5, 7, 3), 0);
        due("missing, told", told(house, 7), text(MIXED));
        due("missing, unlike", house.merge(6, 5, 7, 5), 12);
        due("missing, unlike, told", house.gaps(7), 12);
        mergeRefused();
    }

    private static void mergeRefused() {
        refuses("merge, third is first", ARGUMENT, h -> h.merge(0, 1, 0, 0));
        refuses("merge, third is second", ARGUMENT, h -> h.merge(0, 1, 1, 0));
        refuses("merge, third is both", ARGUMENT, h -> h.merge(5, 5, 5, 0));
        refuses("merge, first is rough", ARGUMENT, h -> h.merge(4, 0, 1, 0));
        refuses("merge, second is rough", ARGUMENT, h -> h.merge(0, 4, 1, 0));
        refuses("merge, third is rough", ARGUMENT, h -> h.merge(0, 1, 4, 0));
        refuses("merge, first is fine", ARGUMENT, h -> h.merge(3, 4, 5, 0));
        for (int row : OUTSIDE_ROWS) {
            refuses("merge first " + row, INDEX, h -> h.merge(row, 1, 2, 0));
            refuses("merge second " + row, INDEX, h -> h.merge(0, row, 2, 0));
            refuses("merge third " + row, INDEX, h -> h.merge(0, 1, row, 0));
            refuses("merge first and all else " + row, INDEX, h -> h.merge(row, 4, 4, 6));
            refuses("merge second and all else " + row, INDEX, h -> h.merge(0, row, 0, 6));
            refuses("merge third and all else " + row, INDEX, h -> h.merge(0, 4, row, 6));
        }
        for (int sign : OUTSIDE_SIGNS) {
            refuses("merge sign " + sign, ARGUMENT, h -> h.merge(0, 1, 2, sign));
        }
    }

    private static void at(int number, String name) {
        promise = "promise " + number + " (" + name + ")";
    }

    public static void main(String[] args) {
        at(1, "new"); newObject();
        at(2, "put"); put();
        at(3, "reading"); reading();
        at(4, "level"); level();
        at(5, "copy"); copy();
        at(6, "straight"); straight();
        at(7, "turned"); turned();
        at(8, "between"); between();
        at(9, "must"); must();
        at(10, "watch"); watch();
        at(11, "isOpen"); isOpen();
        at(12, "climb"); climb();
        at(13, "drift"); drift();
        at(14, "pick"); pick();
        at(15, "keep"); keep();
        at(16, "notes"); notes();
        at(17, "gaps"); gaps();
        at(18, "settle"); settle();
        at(19, "meet"); meet();
        at(20, "alike"); alike();
        at(21, "merge"); merge();
        System.out.println(wrong == 0 ? "all promises are kept" : wrong + " answers are not as due");
        if (wrong != 0) {
            System.exit(1);
        }
    }
}
