import java.util.Arrays;

/**
 * Each call with every mix of arguments from the edges and from just outside them: which exception
 * is thrown, or that none is, and that a call that throws changes nothing.
 */
public final class RefusalTest {
    private static final int NONE = TideHouse.MISSING;
    private static final int LEAST = Integer.MIN_VALUE;
    private static final int GREATEST = Integer.MAX_VALUE;
    private static final String NOTHING = "nothing";
    private static final String INDEX = "IndexOutOfBoundsException";
    private static final String ARGUMENT = "IllegalArgumentException";
    private static final String STATE = "IllegalStateException";

    // Both ends of both sorts of rows, since two rows must be of one sort.
    private static final int[] ROWS = {LEAST, -1, 0, 1, 3, 4, 6, 7, 8, GREATEST};
    private static final int[] PLACES = {LEAST, -1, 0, 11, 12, GREATEST};
    private static final int[] GATES = {LEAST, -1, 0, 3, 4, GREATEST};
    private static final int[] SIGNS = {LEAST, -1, 0, 1, 2, 3, 4, 5, 6, GREATEST};
    private static final int[] NUMBERS = {LEAST, LEAST + 1, -8000001, -8000000, 0, 8000000, 8000001, GREATEST};
    private static final int[] FLAGS = {0, 1};

    private static final String START = state(busyHouse());

    private static int wrong = 0;
    private static int mixes = 0;
    private static int refusals = 0;

    private interface Call {
        Object on(TideHouse house, int[] given);
    }

    // Every part differs from a new house's and every row from the others, so that any change shows.
    private static TideHouse busyHouse() {
        TideHouse house = new TideHouse();
        for (int row = 0; row < 8; row++) {
            for (int place = 0; place < 12; place++) {
                house.put(row, place, busyReading(row, place));
            }
            house.keep(row, row % 5);
        }
        for (int gate = 0; gate < 4; gate++) {
            house.level(gate, false, fineLevel(gate));
            house.level(gate, true, roughLevel(gate));
        }
        house.watch(0, 0, true);
        house.watch(2, 7, true);
        return house;
    }

    private static int busyReading(int row, int place) {
        return (row + place) % 4 == 3 ? NONE : (7 * row + 5 * place * place) % 31 - 10;
    }

    private static int fineLevel(int gate) {
        return 3 * gate - 2;
    }

    private static int roughLevel(int gate) {
        return 5 - 4 * gate;
    }

    // The levels can't be read; asked to become what they are, they tell that this is no other one.
    private static String state(TideHouse house) {
        StringBuilder text = new StringBuilder();
        for (int row = 0; row < 8; row++) {
            for (int place = 0; place < 12; place++) {
                text.append(house.reading(row, place)).append(' ');
            }
            text.append(house.notes(row)).append(';');
        }
        for (int gate = 0; gate < 4; gate++) {
            text.append(house.isOpen(gate));
            text.append(house.level(gate, false, fineLevel(gate))).append(house.level(gate, true, roughLevel(gate)));
        }
        return text.toString();
    }

    private static int[] edges(char kind) {
        return switch (kind) {
            case 'R' -> ROWS;
            case 'P' -> PLACES;
            case 'G' -> GATES;
            case 'S' -> SIGNS;
            case 'N' -> NUMBERS;
            default -> FLAGS;
        };
    }

    private static boolean isIn(int x, int first, int last) {
        return x >= first && x <= last;
    }

    private static boolean isNoIndex(char kind, int x) {
        return kind == 'R' && !isIn(x, 0, 7) || kind == 'P' && !isIn(x, 0, 11) || kind == 'G' && !isIn(x, 0, 3);
    }

    private static boolean isNoArgument(char kind, int x) {
        return kind == 'S' && !isIn(x, 0, 5) || kind == 'N' && x != NONE && !isIn(x, -8000000, 8000000);
    }

    private static boolean areOfTwoSorts(String kinds, int[] given) {
        boolean fine = false;
        boolean rough = false;
        for (int k = 0; k < given.length; k++) {
            fine |= kinds.charAt(k) == 'R' && given[k] <= 3;
            rough |= kinds.charAt(k) == 'R' && given[k] >= 4;
        }
        return fine && rough;
    }

    private static boolean isThirdAnother(String kinds, int[] given) {
        return !kinds.startsWith("RRR") || given[2] != given[0] && given[2] != given[1];
    }

    // What must asks: the busy house's reading against the level of the row's sort.
    private static boolean isTrue(int row, int place, int sign, int gate) {
        double x = busyReading(row, place) == NONE ? Double.NaN : busyReading(row, place);
        double y = row <= 3 ? fineLevel(gate) : roughLevel(gate);
        boolean[] answers = {x < y, x <= y, x > y, x >= y, x == y, x != y};
        return answers[sign];
    }

    private static String due(String name, String kinds, int[] given) {
        for (int k = 0; k < given.length; k++) {
            if (isNoIndex(kinds.charAt(k), given[k])) {
                return INDEX;
            }
        }
        for (int k = 0; k < given.length; k++) {
            if (isNoArgument(kinds.charAt(k), given[k])) {
                return ARGUMENT;
            }
        }
        if (areOfTwoSorts(kinds, given) || !isThirdAnother(kinds, given)) {
            return ARGUMENT;
        }
        if (name.equals("must") && !isTrue(given[0], given[1], given[2], given[3])) {
            return STATE;
        }
        return NOTHING;
    }

    private static String thrown(TideHouse house, Call call, int[] given) {
        try {
            call.on(house, given);
            return NOTHING;
        } catch (RuntimeException e) {
            return e.getClass().getSimpleName();
        }
    }

    private static void complain(String name, int[] given, String what) {
        wrong++;
        if (wrong <= 40) {
            System.out.println(name + " of " + Arrays.toString(given) + " " + what);
        }
    }

    private static void one(String name, String kinds, int[] given, Call call) {
        TideHouse house = busyHouse();
        String want = due(name, kinds, given);
        String got = thrown(house, call, given);
        mixes++;
        if (!got.equals(want)) {
            complain(name, given, "throws " + got + ", due is " + want);
        }
        if (!want.equals(NOTHING)) {
            refusals++;
            if (!state(house).equals(START)) {
                complain(name, given, "is refused and changes something");
            }
        }
    }

    // The kinds of the arguments, one letter each: Row, Place, Gate, Sign, Number, Flag.
    private static void every(String name, String kinds, Call call) {
        int[] given = new int[kinds.length()];
        int all = 1;
        for (int k = 0; k < given.length; k++) {
            all *= edges(kinds.charAt(k)).length;
        }
        for (int mix = 0; mix < all; mix++) {
            int rest = mix;
            for (int k = 0; k < given.length; k++) {
                int[] choice = edges(kinds.charAt(k));
                given[k] = choice[rest % choice.length];
                rest /= choice.length;
            }
            one(name, kinds, given, call);
        }
    }

    public static void main(String[] args) {
        every("put", "RPN", (h, g) -> h.put(g[0], g[1], g[2]));
        every("reading", "RP", (h, g) -> h.reading(g[0], g[1]));
        every("level", "GFN", (h, g) -> h.level(g[0], g[1] == 1, g[2]));
        every("copy", "RR", (h, g) -> h.copy(g[0], g[1]));
        every("straight", "RSG", (h, g) -> h.straight(g[0], g[1], g[2]));
        every("turned", "RSG", (h, g) -> h.turned(g[0], g[1], g[2]));
        every("between", "RGG", (h, g) -> h.between(g[0], g[1], g[2]));
        every("must", "RPSG", (h, g) -> h.must(g[0], g[1], g[2], g[3]));
        every("watch", "GRF", (h, g) -> h.watch(g[0], g[1], g[2] == 1));
        every("isOpen", "G", (h, g) -> h.isOpen(g[0]));
        every("climb", "RPS", (h, g) -> h.climb(g[0], g[1], g[2]));
        every("drift", "RPS", (h, g) -> h.drift(g[0], g[1], g[2]));
        every("pick", "RS", (h, g) -> h.pick(g[0], g[1]));
        every("keep", "RS", (h, g) -> h.keep(g[0], g[1]));
        every("notes", "R", (h, g) -> h.notes(g[0]));
        every("gaps", "R", (h, g) -> h.gaps(g[0]));
        every("settle", "RS", (h, g) -> h.settle(g[0], g[1]));
        every("meet", "RRS", (h, g) -> h.meet(g[0], g[1], g[2]));
        every("alike", "RR", (h, g) -> h.alike(g[0], g[1]));
        every("merge", "RRRS", (h, g) -> h.merge(g[0], g[1], g[2], g[3]));
        System.out.println(mixes + " mixes of arguments, " + refusals + " of them to be refused: " + wrong + " not as due");
        if (wrong != 0) {
            System.exit(1);
        }
    }
}
