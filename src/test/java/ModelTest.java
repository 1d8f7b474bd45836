import java.lang.reflect.Array;

/**
 * Long runs of calls against a second program, in which Java's own arrays say what fits and what is against an act:
 * what a row of grains takes is what java.lang.reflect.Array lets into a byte[].
 */
public final class ModelTest {
    private static final int OBJECTS = 3000, CALLS = 512;
    private static final Check check = new Check();

    public static void main(String[] args) {
        for (int k = 0; k < OBJECTS && check.wrong() < 20; k++) {
            check.part("object " + k);
            compareOneObject(new Dice(k));
        }
        check.end();
    }

    private static void compareOneObject(Dice dice) {
        SeedDrawers x = new SeedDrawers();
        Model m = new Model();
        int before = check.wrong();
        // Few drawers in some runs, so that rows are shared and met often; many in others.
        int drawers = 2 + dice.below(7);
        for (int call = 0; call < CALLS && check.wrong() == before; call++) {
            compareOneCall(x, m, dice, drawers);
        }
    }

    private static void compareOneCall(SeedDrawers x, Model m, Dice dice, int drawers) {
        int a = dice.drawer(drawers);
        int b = dice.drawer(drawers);
        int i = dice.index();
        int j = dice.index();
        switch (dice.below(33)) {
            case 0: case 1: case 2: {
                int kind = dice.below(40) == 0 ? dice.odd() : dice.below(7);
                int n = dice.below(12) == 0 ? dice.odd() : dice.below(13);
                due("row", x.row(a, kind, n), m.row(a, kind, n), a, kind, n);
                break;
            }
            case 3: {
                int v = dice.odd();
                due("note", x.note(a, v), m.note(a, v), a, v);
                break;
            }
            case 4: due("share", x.share(a, b), m.share(a, b), a, b); break;
            case 5: if (dice.below(3) == 0) due("clear", x.clear(a), m.clear(a), a); break;
            case 6: case 7: case 8: {
                int kind = dice.below(20) == 0 ? dice.odd() : dice.below(6);
                long v = dice.number();
                due("think", x.think(kind, v), m.think(kind, v), kind, v);
                break;
            }
            case 9: due("card", x.card(), m.card()); break;
            case 10: due("drop", x.drop(), m.drop()); break;
            case 11: case 12: due("take", x.take(a, i), m.take(a, i), a, i); break;
            case 13: case 14: case 15: due("lay", x.lay(a, i), m.lay(a, i), a, i); break;
            case 16: due("size", x.size(a), m.size(a), a); break;
            case 17: case 18: {
                int n = dice.below(20) == 0 ? dice.odd() : dice.below(13);
                due("pour", x.pour(a, i, b, j, n), m.pour(a, i, b, j, n), a, i, b, j, n);
                break;
            }
            case 19: case 20: due("swap", x.swap(a, i, b, j), m.swap(a, i, b, j), a, i, b, j); break;
            case 21: due("turn", x.turn(a), m.turn(a), a); break;
            case 22: due("sum", x.sum(a), m.sum(a), a); break;
            case 23: due("find", x.find(a), m.find(a), a); break;
            case 24: case 25: {
                int op = dice.below(20) == 0 ? dice.odd() : dice.below(5);
                due("order", x.order(op, a, i, b, j), m.order(op, a, i, b, j), op, a, i, b, j);
                break;
            }
            case 26: if (dice.below(2) == 0) due("run", x.run(), m.run()); break;
            case 27: {
                int k = dice.below(10) - 1;
                due("met", x.met(k), m.met(k), k);
                break;
            }
            case 28: {
                int of = dice.below(7) - 1;
                due("faults", x.faults(of), m.faults(of), of);
                break;
            }
            case 29: {
                int what = dice.below(10) == 0 ? dice.odd() : dice.below(3);
                due("told", x.told(a, what), m.told(a, what), a, what);
                break;
            }
            case 30: due("fault", x.fault(), m.latest); break;
            case 31: due("hand", x.hand(), Model.kindOf(m.hand)); break;
            default: due("value", x.value(), Model.valueOf(m.hand));
        }
    }

    private static void due(String name, long got, long want, long... numbers) {
        if (got != want) {
            StringBuilder call = new StringBuilder(name).append("(");
            for (long number : numbers) {
                call.append(call.charAt(call.length() - 1) == '(' ? "" : ", ").append(number);
            }
            check.due(call.append(")").toString(), got, want);
        }
    }

    /** A fixed series of numbers: the same ones in every run of the test. */
    private static final class Dice {
        private static final int[] ODD = {-1, 13, 7, 8, 21, 20, 100, 0, 5, -12, Integer.MAX_VALUE, Integer.MIN_VALUE};
        private static final long[] EDGES = {0, 1, -1, 127, 128, -128, -129, 255, 256, 32767, 32768, -32768, 65535,
            65536, Integer.MAX_VALUE, Integer.MIN_VALUE, 1L << 31, 1L << 32, Long.MAX_VALUE, Long.MIN_VALUE};
        private long state;

        Dice(long seed) {
            state = seed * 0x9E3779B97F4A7C15L + 1;
        }

        int below(int bound) {
            state = state * 6364136223846793005L + 1442695040888963407L;
            return (int) ((state >>> 33) % bound);
        }

        int odd() {
            return ODD[below(ODD.length)];
        }

        int drawer(int drawers) {
            return below(25) == 0 ? odd() : below(drawers);
        }

        int index() {
            return below(15) == 0 ? odd() : below(below(3) == 0 ? 14 : 4);
        }

        long number() {
            return below(3) == 0 ? EDGES[below(EDGES.length)] : below(4) - 1;
        }
    }

    private static final class Card {
        final int number;

        Card(int number) {
            this.number = number;
        }
    }

    private static final class Fault extends Exception {
        private static final long serialVersionUID = 1;
        final int number;

        Fault(int number) {
            this.number = number;
        }
    }

    /** A drawer has null, an Integer (its note) or an array; the hand has null, a boxed number or a card. */
    private static final class Model {
        final Object[] drawers = new Object[8];
        Object hand;
        int cards;
        int[][] orders = new int[0][];
        int[] met = new int[0];
        int latest;
        final int[] counts = new int[5];

        static int kindOf(Object thing) {
            Class<?>[] kinds = {
                Byte.class, Short.class, Character.class, Integer.class, Long.class, Boolean.class, Card.class};
            for (int kind = 0; kind < kinds.length; kind++) {
                if (kinds[kind].isInstance(thing)) {
                    return kind;
                }
            }
            return -9;
        }

        static long valueOf(Object thing) {
            if (thing == null) {
                return 0;
            }
            if (thing instanceof Card) {
                return ((Card) thing).number;
            }
            if (thing instanceof Boolean) {
                return (Boolean) thing ? 1 : 0;
            }
            return thing instanceof Character ? (Character) thing : ((Number) thing).longValue();
        }

        private int fault(Fault fault) {
            latest = fault.number;
            counts[0]++;
            counts[fault.number]++;
            return -10 - fault.number;
        }

        private static boolean within(long number, long low, long high) {
            return low <= number && number <= high;
        }

        private Object come(int d, int i) throws Fault {
            try {
                return Array.get(drawers[d], i);
            } catch (NullPointerException e) {
                throw new Fault(1);
            } catch (ArrayIndexOutOfBoundsException e) {
                throw new Fault(3);
            } catch (IllegalArgumentException e) {
                throw new Fault(2);
            }
        }

        private void put(int d, int i, Object thing) throws Fault {
            come(d, i);
            try {
                Array.set(drawers[d], i, thing);
            } catch (IllegalArgumentException | NullPointerException e) {
                throw new Fault(4);
            }
        }

        private int length(int d) throws Fault {
            try {
                return Array.getLength(drawers[d]);
            } catch (NullPointerException e) {
                throw new Fault(1);
            } catch (IllegalArgumentException e) {
                throw new Fault(2);
            }
        }

        int row(int d, int kind, int n) {
            if (!within(d, 0, 7)) {
                return -1;
            }
            if (!within(kind, 0, 6) || !within(n, 0, 12)) {
                return -2;
            }
            Class<?>[] kinds = {
                byte.class, short.class, char.class, int.class, long.class, boolean.class, Card.class};
            drawers[d] = Array.newInstance(kinds[kind], n);
            return n;
        }

        int note(int d, int v) {
            if (!within(d, 0, 7)) {
                return -1;
            }
            drawers[d] = v;
            return 1;
        }

        int share(int d, int from) {
            if (!within(d, 0, 7) || !within(from, 0, 7)) {
                return -1;
            }
            drawers[d] = drawers[from];
            return 1;
        }

        int clear(int d) {
            if (!within(d, 0, 7)) {
                return -1;
            }
            boolean had = drawers[d] != null;
            drawers[d] = null;
            return had ? 1 : 0;
        }

        int think(int kind, long v) {
            if (!within(kind, 0, 5)) {
                return -2;
            }
            Object[] things = {(byte) v, (short) v, (char) v, (int) v, v, v != 0};
            hand = things[kind];
            return 1;
        }

        int card() {
            if (cards == 30) {
                return -3;
            }
            hand = new Card(++cards);
            return cards;
        }

        int drop() {
            int had = kindOf(hand);
            hand = null;
            return had;
        }

        int take(int d, int i) {
            if (!within(d, 0, 7)) {
                return -1;
            }
            try {
                hand = come(d, i);
                return kindOf(hand);
            } catch (Fault fault) {
                return fault(fault);
            }
        }

        int lay(int d, int i) {
            if (!within(d, 0, 7)) {
                return -1;
            }
            if (hand == null) {
                return -3;
            }
            try {
                put(d, i, hand);
                return 1;
            } catch (Fault fault) {
                return fault(fault);
            }
        }

        int size(int d) {
            if (!within(d, 0, 7)) {
                return -1;
            }
            try {
                return length(d);
            } catch (Fault fault) {
                return fault(fault);
            }
        }

        int pour(int d, int i, int to, int j, int n) {
            if (!within(d, 0, 7) || !within(to, 0, 7)) {
                return -1;
            }
            if (!within(i, 0, 20) || !within(j, 0, 20) || !within(n, 0, 12)) {
                return -2;
            }
            int laid = 0;
            try {
                while (laid < n) {
                    put(to, j + laid, come(d, i + laid));
                    laid++;
                }
                return n;
            } catch (Fault fault) {
                fault(fault);
                return laid - 100;
            }
        }

        int swap(int a, int i, int b, int j) {
            if (!within(a, 0, 7) || !within(b, 0, 7)) {
                return -1;
            }
            try {
                Object first = come(a, i);
                Object second = come(b, j);
                put(a, i, second);
                try {
                    put(b, j, first);
                } catch (Fault fault) {
                    put(a, i, first);
                    throw fault;
                }
                return 1;
            } catch (Fault fault) {
                return fault(fault);
            }
        }

        int turn(int d) {
            if (!within(d, 0, 7)) {
                return -1;
            }
            try {
                Object[] things = new Object[length(d)];
                for (int i = 0; i < things.length; i++) {
                    things[i] = come(d, i);
                }
                for (int i = 0; i < things.length; i++) {
                    put(d, things.length - 1 - i, things[i]);
                }
                return things.length / 2;
            } catch (Fault fault) {
                return fault(fault);
            }
        }

        long sum(int d) {
            if (!within(d, 0, 7)) {
                return 0;
            }
            try {
                long all = 0;
                for (int i = length(d) - 1; i >= 0; i--) {
                    all += valueOf(come(d, i));
                }
                return all;
            } catch (Fault fault) {
                fault(fault);
                return 0;
            }
        }

        int find(int d) {
            if (!within(d, 0, 7)) {
                return -1;
            }
            try {
                int found = -9;
                for (int i = length(d) - 1; i >= 0; i--) {
                    Object thing = come(d, i);
                    if (thing == null ? hand == null : thing.equals(hand)) {
                        found = i;
                    }
                }
                return found;
            } catch (Fault fault) {
                return fault(fault);
            }
        }

        int order(int op, int a, int i, int b, int j) {
            if (!within(a, 0, 7) || !within(b, 0, 7)) {
                return -1;
            }
            if (!within(op, 0, 4) || !within(i, 0, 20) || !within(j, 0, 20)) {
                return -2;
            }
            if (orders.length == 8) {
                return -3;
            }
            orders = java.util.Arrays.copyOf(orders, orders.length + 1);
            orders[orders.length - 1] = new int[] {op, a, i, b, j};
            return orders.length;
        }

        int run() {
            met = new int[orders.length];
            int fine = 0;
            for (int k = 0; k < orders.length; k++) {
                int[] o = orders[k];
                int answer = o[0] == 0 ? take(o[1], o[2])
                    : o[0] == 1 ? (hand == null ? 0 : lay(o[3], o[4]))
                    : o[0] == 2 ? swap(o[1], o[2], o[3], o[4])
                    : o[0] == 3 ? turn(o[1])
                    : pour(o[1], o[2], o[3], o[4], 3);
                met[k] = answer < -9 ? latest : 0;
                fine += answer < -9 ? 0 : 1;
            }
            orders = new int[0][];
            return fine;
        }

        int met(int k) {
            return within(k, 0, met.length - 1) ? met[k] : -9;
        }

        int faults(int of) {
            return within(of, 0, 4) ? counts[of] : -9;
        }

        int told(int d, int what) {
            if (!within(d, 0, 7)) {
                return -1;
            }
            if (!within(what, 0, 2)) {
                return -2;
            }
            Object had = drawers[d];
            boolean isNote = had instanceof Integer;
            boolean isRow = had != null && !isNote;
            if (what == 2) {
                return isNote ? (Integer) had : 0;
            }
            if (what == 1) {
                int same = 0;
                for (Object other : drawers) {
                    same += isRow && other == had ? 1 : 0;
                }
                return same;
            }
            Class<?>[] rows = {byte[].class, short[].class, char[].class, int[].class, long[].class,
                boolean[].class, Card[].class};
            return isRow ? 2 + java.util.Arrays.asList(rows).indexOf(had.getClass()) : isNote ? 1 : 0;
        }
    }
}
