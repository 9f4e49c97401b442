import java.util.Arrays;

/**
 * Long runs of calls against a second telling of the document, in which what is missing is NaN: the
 * comparisons of floating numbers are then the QUESTIONS, and not one line is shared with the class.
 */
public final class ModelTest {
    private static final int RUNS = 3000;
    private static final int CALLS = 280;
    private static final int NONE = TideHouse.MISSING;
    private static final String[] CALL_NAMES = {
        "put", "reading", "level", "copy", "straight", "turned", "between", "must", "watch", "isOpen",
        "climb", "drift", "pick", "keep", "notes", "gaps", "settle", "meet", "alike", "merge",
    };

    private static int wrong = 0;
    private static long seed = 20261116L;

    // A generator of its own, so that every run of this test makes the same calls.
    private static int below(int bound) {
        seed = seed * 6364136223846793005L + 1442695040888963407L;
        return (int) ((seed >>> 33) % bound);
    }

    private static final class Refused extends Exception {
        private static final long serialVersionUID = 1L;

        Refused(String name) {
            super(name);
        }
    }

    private static final class Model {
        final double[][] rows = new double[8][12];
        final double[][] levels = new double[4][2];
        final boolean[] open = new boolean[4];
        final boolean[][] notes = new boolean[8][11];

        Model() {
            for (double[] row : rows) {
                Arrays.fill(row, Double.NaN);
            }
            for (double[] pair : levels) {
                Arrays.fill(pair, Double.NaN);
            }
        }

        static double heard(int eighths) {
            return eighths == NONE ? Double.NaN : eighths / 8.0;
        }

        static long told(double x) {
            return x != x ? NONE : (long) (x * 8.0);
        }

        static boolean ask(int sign, double x, double y) {
            return switch (sign) {
                case 0 -> x < y;
                case 1 -> x <= y;
                case 2 -> x > y;
                case 3 -> x >= y;
                case 4 -> x == y;
                case 5 -> x != y;
                default -> throw new Error("the model was asked with sign " + sign);
            };
        }

        static void index(boolean good) throws Refused {
            if (!good) {
                throw new Refused("IndexOutOfBoundsException");
            }
        }

        static void argument(boolean good) throws Refused {
            if (!good) {
                throw new Refused("IllegalArgumentException");
            }
        }

        static boolean in(int x, int bound) {
            return 0 <= x && x < bound;
        }

        static boolean number(int eighths) {
            return eighths == NONE || Math.abs((long) eighths) <= 8000000L;
        }

        long answer(int call, int a, int b, int c, int d) throws Refused {
            return switch (call) {
                case 0 -> put(a, b, c);
                case 1 -> reading(a, b);
                case 2 -> level(a, b, c);
                case 3 -> copy(a, b);
                case 4, 5 -> compare(call == 4, a, b, c);
                case 6 -> between(a, b, c);
                case 7 -> must(a, b, c, d);
                case 8 -> watch(a, b, c == 1);
                case 9 -> isOpen(a);
                case 10, 11 -> walk(call == 10, a, b, c);
                case 12 -> pick(a, b);
                case 13 -> keep(a, b);
                case 14 -> notes(a);
                case 15 -> gaps(a);
                case 16 -> settle(a, b);
                case 17 -> meet(a, b, c);
                case 18 -> alike(a, b);
                default -> merge(a, b, c, d);
            };
        }

        long put(int row, int place, int eighths) throws Refused {
            index(in(row, 8) && in(place, 12));
            argument(number(eighths));
            long before = told(rows[row][place]);
            rows[row][place] = heard(eighths);
            return before == eighths ? 0 : 1;
        }

        long reading(int row, int place) throws Refused {
            index(in(row, 8) && in(place, 12));
            return told(rows[row][place]);
        }

        long level(int gate, int rough, int eighths) throws Refused {
            index(in(gate, 4));
            argument(number(eighths));
            long before = told(levels[gate][rough]);
            levels[gate][rough] = heard(eighths);
            return before == eighths ? 0 : 1;
        }

        long copy(int from, int to) throws Refused {
            index(in(from, 8) && in(to, 8));
            argument(from / 4 == to / 4);
            rows[to] = rows[from].clone();
            return gaps(to);
        }

        long compare(boolean straight, int row, int sign, int gate) throws Refused {
            index(in(row, 8) && in(gate, 4));
            argument(in(sign, 6));
            double bound = levels[gate][row / 4];
            return Arrays.stream(rows[row]).filter(x -> straight ? ask(sign, x, bound) : !ask(sign, bound, x)).count();
        }

        long between(int row, int low, int high) throws Refused {
            index(in(row, 8) && in(low, 4) && in(high, 4));
            double floor = levels[low][row / 4];
            double ceiling = levels[high][row / 4];
            long inside = Arrays.stream(rows[row]).filter(x -> x >= floor && x <= ceiling).count();
            long outside = Arrays.stream(rows[row]).filter(x -> x < floor || x > ceiling).count();
            return 16 * inside + outside;
        }

        long must(int row, int place, int sign, int gate) throws Refused {
            index(in(row, 8) && in(place, 12) && in(gate, 4));
            argument(in(sign, 6));
            if (!ask(sign, rows[row][place], levels[gate][row / 4])) {
                throw new Refused("IllegalStateException");
            }
            return told(rows[row][place]);
        }

        long watch(int gate, int row, boolean trusting) throws Refused {
            index(in(gate, 4) && in(row, 8));
            double bound = levels[gate][row / 4];
            long changes = 0;
            for (double x : rows[row]) {
                boolean was = open[gate];
                open[gate] = trusting;
                if (trusting && x < bound) {
                    open[gate] = false;
                }
                if (!trusting && x >= bound) {
                    open[gate] = true;
                }
                changes += was == open[gate] ? 0 : 1;
            }
            return changes;
        }

        long isOpen(int gate) throws Refused {
            index(in(gate, 4));
            return open[gate] ? 1 : 0;
        }

        long walk(boolean wanted, int row, int place, int sign) throws Refused {
            index(in(row, 8) && in(place, 12));
            argument(in(sign, 6));
            for (int k = place; k < 11; k++) {
                if (ask(sign, rows[row][k], rows[row][k + 1]) != wanted) {
                    return k;
                }
            }
            return 11;
        }

        long pick(int row, int sign) throws Refused {
            index(in(row, 8));
            argument(in(sign, 6));
            int held = 0;
            for (int k = 1; k < 12; k++) {
                held = ask(sign, rows[row][k], rows[row][held]) ? k : held;
            }
            return held;
        }

        long keep(int row, int sign) throws Refused {
            index(in(row, 8));
            argument(in(sign, 6));
            long count = 0;
            for (int k = 0; k < 11; k++) {
                notes[row][k] = ask(sign, rows[row][k], rows[row][k + 1]);
                count += notes[row][k] ? 1 : 0;
            }
            return count;
        }

        long notes(int row) throws Refused {
            index(in(row, 8));
            long bits = 0;
            for (int k = 10; k >= 0; k--) {
                bits = 2 * bits + (notes[row][k] ? 1 : 0);
            }
            return bits;
        }

        long gaps(int row) throws Refused {
            index(in(row, 8));
            return Arrays.stream(rows[row]).filter(x -> x != x).count();
        }

        long settle(int row, int sign) throws Refused {
            index(in(row, 8));
            argument(in(sign, 6));
            double[] r = rows[row];
            long changes = 0;
            for (int start = 1; start < 12; start++) {
                for (int k = start; k > 0 && ask(sign, r[k], r[k - 1]); k--) {
                    double neighbour = r[k - 1];
                    r[k - 1] = r[k];
                    r[k] = neighbour;
                    changes++;
                }
            }
            return changes;
        }

        long meet(int row, int other, int sign) throws Refused {
            index(in(row, 8) && in(other, 8));
            argument(in(sign, 6) && row / 4 == other / 4);
            long count = 0;
            for (int k = 0; k < 12; k++) {
                count += ask(sign, rows[row][k], rows[other][k]) ? 1 : 0;
            }
            return count;
        }

        long alike(int row, int other) throws Refused {
            index(in(row, 8) && in(other, 8));
            argument(row / 4 == other / 4);
            return Arrays.equals(rows[row], rows[other]) ? 1 : 0;
        }

        long merge(int row, int other, int third, int sign) throws Refused {
            index(in(row, 8) && in(other, 8) && in(third, 8));
            argument(in(sign, 6) && row / 4 == other / 4 && row / 4 == third / 4 && third != row && third != other);
            int first = 0;
            int second = 0;
            for (int k = 0; k < 12; k++) {
                rows[third][k] = ask(sign, rows[row][first], rows[other][second]) ? rows[row][first++] : rows[other][second++];
            }
            return first;
        }
    }

    private static long bit(boolean answer) {
        return answer ? 1 : 0;
    }

    private static long ask(TideHouse house, int call, int a, int b, int c, int d) {
        return switch (call) {
            case 0 -> bit(house.put(a, b, c));
            case 1 -> house.reading(a, b);
            case 2 -> bit(house.level(a, b == 1, c));
            case 3 -> house.copy(a, b);
            case 4 -> house.straight(a, b, c);
            case 5 -> house.turned(a, b, c);
            case 6 -> house.between(a, b, c);
            case 7 -> house.must(a, b, c, d);
            case 8 -> house.watch(a, b, c == 1);
            case 9 -> bit(house.isOpen(a));
            case 10 -> house.climb(a, b, c);
            case 11 -> house.drift(a, b, c);
            case 12 -> house.pick(a, b);
            case 13 -> house.keep(a, b);
            case 14 -> house.notes(a);
            case 15 -> house.gaps(a);
            case 16 -> house.settle(a, b);
            case 17 -> house.meet(a, b, c);
            case 18 -> bit(house.alike(a, b));
            default -> house.merge(a, b, c, d);
        };
    }

    private static void compare(int run, TideHouse house, Model model, int call, int a, int b, int c, int d) {
        String want;
        String got;
        try {
            want = "" + model.answer(call, a, b, c, d);
        } catch (Refused e) {
            want = "throws." + e.getMessage();
        }
        try {
            got = "" + ask(house, call, a, b, c, d);
        } catch (RuntimeException e) {
            got = "throws." + e.getClass().getSimpleName();
        }
        if (!got.equals(want)) {
            wrong++;
            System.out.println("run " + run + ": " + CALL_NAMES[call] + " of " + a + ", " + b + ", " + c + ", " + d
                + " (as many as it takes) answered " + got + ", due is " + want);
        }
    }

    // Now and then one beyond, on either side or far away.
    private static int index(int bound) {
        return switch (below(60)) {
            case 0 -> -1;
            case 1 -> bound;
            case 2 -> below(2) == 0 ? Integer.MIN_VALUE : Integer.MAX_VALUE;
            default -> below(bound);
        };
    }

    private static int eighths(int spread) {
        return switch (below(24)) {
            case 0, 1, 2, 3 -> NONE;
            case 4 -> below(2) == 0 ? 8000000 : -8000000;
            case 5 -> below(4) == 0 ? (below(2) == 0 ? 8000001 : -8000001) : 7999999;
            case 6 -> below(4) == 0 ? (below(2) == 0 ? Integer.MAX_VALUE : NONE + 1) : -7999999;
            default -> below(2 * spread + 1) - spread;
        };
    }

    // Rows of one sort more often than not, or most calls of two rows would only be refused.
    private static int rowBeside(int row) {
        return below(5) == 0 || row < 0 || row > 7 ? index(8) : row / 4 * 4 + below(4);
    }

    private static void oneCall(int run, TideHouse house, Model model, int spread) {
        int call = below(20);
        int row = index(8);
        int other = rowBeside(row);
        int sign = index(6);
        switch (call) {
            case 0 -> compare(run, house, model, call, row, index(12), eighths(spread), 0);
            case 1 -> compare(run, house, model, call, row, index(12), 0, 0);
            case 2 -> compare(run, house, model, call, index(4), below(2), eighths(spread), 0);
            case 3, 18 -> compare(run, house, model, call, row, other, 0, 0);
            case 4, 5 -> compare(run, house, model, call, row, sign, index(4), 0);
            case 6 -> compare(run, house, model, call, row, index(4), index(4), 0);
            case 7 -> compare(run, house, model, call, row, index(12), sign, index(4));
            case 8 -> compare(run, house, model, call, index(4), row, below(2), 0);
            case 9 -> compare(run, house, model, call, index(4), 0, 0, 0);
            case 10, 11 -> compare(run, house, model, call, row, index(12), sign, 0);
            case 14, 15 -> compare(run, house, model, call, row, 0, 0, 0);
            case 17 -> compare(run, house, model, call, row, other, sign, 0);
            case 19 -> compare(run, house, model, call, row, other, rowBeside(row), sign);
            default -> compare(run, house, model, call, row, sign, 0, 0);
        }
    }

    private static void fill(int run, TideHouse house, Model model, int spread) {
        for (int row = 0; row < 8; row++) {
            for (int place = 0; place < 12; place++) {
                compare(run, house, model, 0, row, place, eighths(spread), 0);
            }
        }
    }

    // The levels can't be read; asked to become what they should be, they must tell that this is no other one.
    private static void look(int run, TideHouse house, Model model) {
        for (int row = 0; row < 8; row++) {
            for (int place = 0; place < 12; place++) {
                compare(run, house, model, 1, row, place, 0, 0);
            }
            compare(run, house, model, 14, row, 0, 0, 0);
        }
        for (int gate = 0; gate < 4; gate++) {
            compare(run, house, model, 9, gate, 0, 0, 0);
            compare(run, house, model, 2, gate, 0, (int) Model.told(model.levels[gate][0]), 0);
            compare(run, house, model, 2, gate, 1, (int) Model.told(model.levels[gate][1]), 0);
        }
    }

    public static void main(String[] args) {
        int[] spreads = {1, 3, 20, 7999999};
        // 96 calls to fill, CALLS and 116 to look: under the 512 that an object is used for.
        for (int run = 0; run < RUNS && wrong < 20; run++) {
            TideHouse house = new TideHouse();
            Model model = new Model();
            int spread = spreads[run % spreads.length];
            if (run % 3 != 0) {
                fill(run, house, model, spread);
            }
            for (int k = 0; k < CALLS; k++) {
                oneCall(run, house, model, spread);
            }
            look(run, house, model);
        }
        System.out.println(wrong == 0 ? "the class and its model agree" : wrong + " answers are not the model's");
        if (wrong != 0) {
            System.exit(1);
        }
    }
}
