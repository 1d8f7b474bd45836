/** The document's promises one by one: ordinary inputs, the edges that it names, wrong inputs. */
public final class PromisesTest {
    private static final int GRAINS = 0, PODS = 1, MARKS = 2, COUNTS = 3, DATES = 4, TICKS = 5, CARDS = 6;
    private static final int UNKNOWN = -1, OUTSIDE = -2, STATE = -3, NONE = -9;
    private static final int NULL = -11, KIND = -12, INDEX = -13, UNFIT = -14;
    private static final int[] NO_DRAWERS = {-1, 8, Integer.MIN_VALUE, Integer.MAX_VALUE};

    private static final Check check = new Check();

    public static void main(String[] args) {
        newObject();
        row();
        note();
        share();
        clear();
        think();
        card();
        drop();
        take();
        lay();
        layFits();
        size();
        pour();
        pourFaults();
        swap();
        swapFaults();
        turn();
        sum();
        find();
        order();
        run();
        runPourAndTurn();
        met();
        fault();
        faults();
        told();
        hand();
        value();
        rowsAreUsedAgain();
        check.end();
    }

    private static void due(String call, long got, long want) {
        check.due(call, got, want);
    }

    /** Drawer 0 has nothing, 1 a note, 2 a row of three counts: 10, 20, 30; the hand has nothing. */
    private static SeedDrawers store() {
        SeedDrawers x = new SeedDrawers();
        x.note(1, 77);
        countsIn(x, 2, 10, 20, 30);
        return x;
    }

    private static void countsIn(SeedDrawers x, int drawer, long... values) {
        things(x, drawer, COUNTS, values);
    }

    private static void things(SeedDrawers x, int drawer, int kind, long... values) {
        due("row", x.row(drawer, kind, values.length), values.length);
        for (int i = 0; i < values.length; i++) {
            x.think(kind, values[i]);
            due("lay", x.lay(drawer, i), 1);
        }
        x.drop();
    }

    /** A row of new cards, EMPTY where a text has a dot. */
    private static void cardsIn(SeedDrawers x, int drawer, String places) {
        due("row", x.row(drawer, CARDS, places.length()), places.length());
        for (int i = 0; i < places.length(); i++) {
            if (places.charAt(i) != '.') {
                x.card();
                due("lay", x.lay(drawer, i), 1);
            }
        }
        x.drop();
    }

    private static void rowIs(String when, SeedDrawers x, int drawer, long... values) {
        due(when + ": size", x.size(drawer), values.length);
        for (int i = 0; i < values.length; i++) {
            x.take(drawer, i);
            due(when + ": place " + i, x.value(), values[i]);
        }
    }

    private static void newObject() {
        check.part("promise 1");
        SeedDrawers x = new SeedDrawers();
        for (int d = 0; d < 8; d++) {
            for (int what = 0; what < 3; what++) {
                due("told(" + d + ", " + what + ")", x.told(d, what), 0);
            }
        }
        due("hand()", x.hand(), NONE);
        due("value()", x.value(), 0);
        due("met(0)", x.met(0), NONE);
        due("fault()", x.fault(), 0);
        for (int of = 0; of < 5; of++) {
            due("faults(" + of + ")", x.faults(of), 0);
        }
        due("run()", x.run(), 0);
        due("order(3, 0, 0, 0, 0)", x.order(3, 0, 0, 0, 0), 1);
        due("card()", x.card(), 1);
        SeedDrawers y = new SeedDrawers();
        due("card() of another object", y.card(), 1);
    }

    private static void row() {
        check.part("promise 2");
        SeedDrawers x = new SeedDrawers();
        for (int kind = 0; kind < 7; kind++) {
            for (int n = 0; n <= 12; n++) {
                due("row(" + kind + ", " + kind + ", " + n + ")", x.row(kind, kind, n), n);
                due("size", x.size(kind), n);
                due("told", x.told(kind, 0), 2 + kind);
            }
            due("sum of a new row", x.sum(kind), 0);
            due("take from a new row", x.take(kind, 11), kind == CARDS ? NONE : kind);
            due("value", x.value(), 0);
        }
        for (int d : NO_DRAWERS) {
            due("row(" + d + ", 3, 1)", x.row(d, 3, 1), UNKNOWN);
            due("row(" + d + ", 7, 13)", x.row(d, 7, 13), UNKNOWN);
        }
        int[][] wrong = {{-1, 1}, {7, 1}, {3, -1}, {3, 13}, {Integer.MIN_VALUE, 0}, {Integer.MAX_VALUE, 0},
            {0, Integer.MIN_VALUE}, {0, Integer.MAX_VALUE}};
        for (int[] w : wrong) {
            due("row(0, " + w[0] + ", " + w[1] + ")", x.row(0, w[0], w[1]), OUTSIDE);
        }
        due("refused, the row stays", x.told(0, 0), 2);
        due("refused, the row stays", x.size(0), 12);
        countsIn(x, 0, 5, 6);
        x.share(1, 0);
        due("a new row in place of a shared one", x.row(0, COUNTS, 2), 2);
        rowIs("new", x, 0, 0, 0);
        rowIs("the shared one stays", x, 1, 5, 6);
        due("told(1, 1)", x.told(1, 1), 1);
    }

    private static void note() {
        check.part("promise 3");
        SeedDrawers x = store();
        due("note(2, -5)", x.note(2, -5), 1);
        due("told(2, 0)", x.told(2, 0), 1);
        due("told(2, 2)", x.told(2, 2), -5);
        due("told(1, 2)", x.told(1, 2), 77);
        due("note(0, MIN)", x.note(0, Integer.MIN_VALUE), 1);
        due("told(0, 2)", x.told(0, 2), Integer.MIN_VALUE);
        due("note(7, 0)", x.note(7, 0), 1);
        due("told(7, 0)", x.told(7, 0), 1);
        for (int d : NO_DRAWERS) {
            due("note(" + d + ", 1)", x.note(d, 1), UNKNOWN);
        }
    }

    private static void share() {
        check.part("promise 4");
        SeedDrawers x = store();
        due("share(5, 2)", x.share(5, 2), 1);
        x.think(COUNTS, 99);
        x.lay(5, 1);
        rowIs("the same row", x, 2, 10, 99, 30);
        due("share(2, 2)", x.share(2, 2), 1);
        due("told(2, 1)", x.told(2, 1), 2);
        due("share(6, 1)", x.share(6, 1), 1);
        due("told(6, 2)", x.told(6, 2), 77);
        x.note(1, 78);
        due("a note is not shared", x.told(6, 2), 77);
        due("share(5, 0)", x.share(5, 0), 1);
        due("told(5, 0)", x.told(5, 0), 0);
        due("told(2, 1)", x.told(2, 1), 1);
        for (int d : NO_DRAWERS) {
            due("share(" + d + ", 2)", x.share(d, 2), UNKNOWN);
            due("share(2, " + d + ")", x.share(2, d), UNKNOWN);
        }
        rowIs("refused", x, 2, 10, 99, 30);
    }

    private static void clear() {
        check.part("promise 5");
        SeedDrawers x = store();
        x.share(3, 2);
        due("clear(0)", x.clear(0), 0);
        due("clear(1)", x.clear(1), 1);
        due("clear(1)", x.clear(1), 0);
        due("clear(2)", x.clear(2), 1);
        due("told(2, 0)", x.told(2, 0), 0);
        rowIs("the other drawer has it still", x, 3, 10, 20, 30);
        x.row(4, TICKS, 0);
        due("clear of a row without places", x.clear(4), 1);
        for (int d : NO_DRAWERS) {
            due("clear(" + d + ")", x.clear(d), UNKNOWN);
        }
    }

    private static void think() {
        check.part("promise 6");
        SeedDrawers x = new SeedDrawers();
        long wide = 0x1234_5678_9ABC_8D8EL;
        long[] values = {(byte) 0x8E, (short) 0x8D8E, 0x8D8E, (int) 0x9ABC8D8EL, wide, 1};
        for (int kind = 0; kind < 6; kind++) {
            thinks(x, kind, wide, values[kind]);
            thinks(x, kind, 0, 0);
            thinks(x, kind, 1, 1);
        }
        thinks(x, GRAINS, 127, 127);
        thinks(x, GRAINS, 128, -128);
        thinks(x, GRAINS, 256, 0);
        thinks(x, PODS, 32767, 32767);
        thinks(x, PODS, 32768, -32768);
        thinks(x, MARKS, 65535, 65535);
        thinks(x, MARKS, 65536, 0);
        thinks(x, MARKS, -1, 65535);
        thinks(x, COUNTS, 2147483647L, 2147483647L);
        thinks(x, COUNTS, 2147483648L, -2147483648L);
        thinks(x, DATES, Long.MIN_VALUE, Long.MIN_VALUE);
        thinks(x, TICKS, 1L << 40, 1);
        thinks(x, TICKS, -1, 1);
        for (int kind : new int[] {-1, 6, 7, Integer.MIN_VALUE, Integer.MAX_VALUE}) {
            due("think(" + kind + ", 5)", x.think(kind, 5), OUTSIDE);
            due("refused", x.hand(), TICKS);
            due("refused", x.value(), 1);
        }
    }

    private static void thinks(SeedDrawers x, int kind, long v, long value) {
        String call = "think(" + kind + ", " + v + ")";
        due(call, x.think(kind, v), 1);
        due(call + ", hand()", x.hand(), kind);
        due(call + ", value()", x.value(), value);
    }

    private static void card() {
        check.part("promise 7");
        SeedDrawers x = new SeedDrawers();
        for (int k = 1; k <= 30; k++) {
            due("card()", x.card(), k);
            due("hand()", x.hand(), CARDS);
            due("value()", x.value(), k);
        }
        x.think(COUNTS, 4);
        due("card() beyond 30", x.card(), STATE);
        due("refused", x.hand(), COUNTS);
        due("refused", x.value(), 4);
        x.drop();
        due("card() after drop()", x.card(), STATE);
    }

    private static void drop() {
        check.part("promise 8");
        SeedDrawers x = new SeedDrawers();
        due("drop()", x.drop(), NONE);
        for (int kind = 0; kind < 6; kind++) {
            x.think(kind, 1);
            due("drop()", x.drop(), kind);
            due("hand()", x.hand(), NONE);
            due("value()", x.value(), 0);
            due("drop()", x.drop(), NONE);
        }
        x.card();
        due("drop()", x.drop(), CARDS);
        due("value()", x.value(), 0);
    }

    private static void take() {
        check.part("promise 9");
        SeedDrawers x = store();
        due("take(2, 2)", x.take(2, 2), COUNTS);
        due("value()", x.value(), 30);
        due("take(2, 0)", x.take(2, 0), COUNTS);
        rowIs("what is taken stays", x, 2, 10, 20, 30);
        cardsIn(x, 3, ".c");
        due("take(3, 1)", x.take(3, 1), CARDS);
        due("value()", x.value(), 1);
        due("take(3, 0)", x.take(3, 0), NONE);
        due("hand()", x.hand(), NONE);
        due("value()", x.value(), 0);
        x.think(DATES, 6);
        due("take(0, 50)", x.take(0, 50), NULL);
        due("take(1, 50)", x.take(1, 50), KIND);
        for (int i : new int[] {-1, 3, 12, Integer.MIN_VALUE, Integer.MAX_VALUE}) {
            due("take(2, " + i + ")", x.take(2, i), INDEX);
        }
        x.row(4, CARDS, 0);
        due("take(4, 0)", x.take(4, 0), INDEX);
        due("with a fault the hand stays", x.hand(), DATES);
        due("with a fault the hand stays", x.value(), 6);
        for (int d : NO_DRAWERS) {
            due("take(" + d + ", 0)", x.take(d, 0), UNKNOWN);
        }
        due("faults(0)", x.faults(0), 8);
    }

    private static void lay() {
        check.part("promise 10");
        SeedDrawers x = store();
        for (int d : NO_DRAWERS) {
            due("lay(" + d + ", 0)", x.lay(d, 0), UNKNOWN);
        }
        due("lay(0, 0) with nothing", x.lay(0, 0), STATE);
        due("lay(2, 9) with nothing", x.lay(2, 9), STATE);
        x.row(3, CARDS, 1);
        due("lay(3, 0) with nothing", x.lay(3, 0), STATE);
        due("STATE is no fault", x.faults(0), 0);
        x.think(GRAINS, -7);
        due("lay(2, 1)", x.lay(2, 1), 1);
        due("it stays in the hand, as it was", x.hand(), GRAINS);
        due("it stays in the hand, as it was", x.value(), -7);
        due("there it is of the row's kind", x.take(2, 1), COUNTS);
        rowIs("laid", x, 2, 10, -7, 30);
        x.think(TICKS, 1);
        due("lay(0, -1)", x.lay(0, -1), NULL);
        due("lay(1, -1)", x.lay(1, -1), KIND);
        due("lay(2, -1)", x.lay(2, -1), INDEX);
        due("lay(2, 3)", x.lay(2, 3), INDEX);
        due("lay(2, MIN)", x.lay(2, Integer.MIN_VALUE), INDEX);
        due("lay(2, 0)", x.lay(2, 0), UNFIT);
        due("lay(8, 0)", x.lay(8, 0), UNKNOWN);
        rowIs("a fault changes nothing", x, 2, 10, -7, 30);
    }

    private static void layFits() {
        check.part("promise 10, FITS");
        String[] fits = {"01.34..", ".1.34..", "..234..", "...34..", "....4..", ".....5.", "......6"};
        SeedDrawers x = new SeedDrawers();
        for (int rowKind = 0; rowKind < 7; rowKind++) {
            x.row(rowKind, rowKind, 1);
        }
        for (int kind = 0; kind < 7; kind++) {
            for (int rowKind = 0; rowKind < 7; rowKind++) {
                due("held", kind == CARDS ? x.card() > 0 ? 1 : 0 : x.think(kind, -1), 1);
                long held = x.value();
                boolean fit = fits[kind].charAt(rowKind) != '.';
                due("a " + kind + " laid in a row of " + rowKind, x.lay(rowKind, 0), fit ? 1 : UNFIT);
                x.take(rowKind, 0);
                due("a " + kind + " laid in a row of " + rowKind + " has its value", fit ? x.value() : held, held);
            }
        }
    }

    private static void size() {
        check.part("promise 11");
        SeedDrawers x = store();
        due("size(2)", x.size(2), 3);
        x.row(3, DATES, 0);
        due("size(3)", x.size(3), 0);
        due("size(0)", x.size(0), NULL);
        due("fault()", x.fault(), 1);
        due("size(1)", x.size(1), KIND);
        due("fault()", x.fault(), 2);
        for (int d : NO_DRAWERS) {
            due("size(" + d + ")", x.size(d), UNKNOWN);
        }
        due("faults(0)", x.faults(0), 2);
    }

    private static void pour() {
        check.part("promise 12");
        SeedDrawers x = store();
        countsIn(x, 3, 1, 2, 3, 4, 5);
        due("pour(2, 1, 3, 3, 2)", x.pour(2, 1, 3, 3, 2), 2);
        rowIs("poured", x, 3, 1, 2, 3, 20, 30);
        due("pour(3, 0, 3, 1, 4)", x.pour(3, 0, 3, 1, 4), 4);
        rowIs("one by one, so the first is laid again", x, 3, 1, 1, 1, 1, 1);
        countsIn(x, 3, 1, 2, 3, 4, 5);
        due("pour(3, 2, 3, 0, 3)", x.pour(3, 2, 3, 0, 3), 3);
        rowIs("down", x, 3, 3, 4, 5, 4, 5);
        due("pour(0, 20, 1, 20, 0)", x.pour(0, 20, 1, 20, 0), 0);
        things(x, 4, MARKS, 65535, 7);
        x.row(5, DATES, 12);
        due("pour(4, 0, 5, 10, 2)", x.pour(4, 0, 5, 10, 2), 2);
        due("sum(5)", x.sum(5), 65542);
        due("pour(5, 0, 5, 0, 12)", x.pour(5, 0, 5, 0, 12), 12);
        cardsIn(x, 6, "c.c");
        cardsIn(x, 7, "ccc");
        due("pour(6, 0, 7, 0, 2)", x.pour(6, 0, 7, 0, 2), 2);
        rowIs("EMPTY is poured too", x, 7, 1, 0, 5);
        due("EMPTY is nothing", x.take(7, 1), NONE);
        x.think(TICKS, 1);
        x.pour(2, 0, 3, 0, 1);
        due("the hand stays", x.hand(), TICKS);
        due("no fault", x.faults(0), 0);
    }

    private static void pourFaults() {
        check.part("promise 12, faults");
        SeedDrawers x = store();
        countsIn(x, 3, 1, 2, 3, 4, 5);
        due("the source ends", x.pour(2, 1, 3, 0, 5), -98);
        due("fault()", x.fault(), 3);
        rowIs("what was laid stays", x, 3, 20, 30, 3, 4, 5);
        due("the target ends", x.pour(2, 0, 3, 4, 2), -99);
        rowIs("what was laid stays", x, 3, 20, 30, 3, 4, 10);
        due("far beyond the target", x.pour(2, 0, 3, 20, 1), -100);
        due("far beyond the source", x.pour(2, 20, 3, 0, 1), -100);
        due("from nothing to a note", x.pour(0, 0, 1, 0, 1), -100);
        due("fault()", x.fault(), 1);
        due("from a note to nothing", x.pour(1, 0, 0, 0, 1), -100);
        due("fault()", x.fault(), 2);
        due("no such place, ahead of nothing", x.pour(2, 20, 0, 20, 12), -100);
        due("fault()", x.fault(), 3);
        due("to nothing", x.pour(2, 0, 0, 0, 1), -100);
        due("fault()", x.fault(), 1);
        cardsIn(x, 4, "c.");
        due("a card to counts", x.pour(4, 0, 2, 0, 1), -100);
        due("fault()", x.fault(), 4);
        due("EMPTY to counts", x.pour(4, 1, 2, 0, 1), -100);
        due("fault()", x.fault(), 4);
        due("a card far beyond the target", x.pour(4, 0, 2, 20, 1), -100);
        due("fault()", x.fault(), 3);
        due("EMPTY to no such place", x.pour(4, 1, 2, 3, 1), -100);
        due("fault()", x.fault(), 3);
        rowIs("a fault changes nothing", x, 2, 10, 20, 30);
        due("faults(0)", x.faults(0), 12);
        for (int d : NO_DRAWERS) {
            due("pour(" + d + ", 0, 2, 0, 1)", x.pour(d, 0, 2, 0, 1), UNKNOWN);
            due("pour(2, 0, " + d + ", 0, 1)", x.pour(2, 0, d, 0, 1), UNKNOWN);
            due("pour(2, 21, " + d + ", 0, 1)", x.pour(2, 21, d, 0, 1), UNKNOWN);
        }
        int[][] wrong = {{-1, 0, 1}, {21, 0, 1}, {0, -1, 1}, {0, 21, 1}, {0, 0, -1}, {0, 0, 13},
            {Integer.MAX_VALUE, 0, 1}, {0, Integer.MIN_VALUE, 1}, {0, 0, Integer.MAX_VALUE}};
        for (int[] w : wrong) {
            due("pour(0, " + w[0] + ", 2, " + w[1] + ", " + w[2] + ")", x.pour(0, w[0], 2, w[1], w[2]), OUTSIDE);
        }
        due("refused is no fault", x.faults(0), 12);
    }

    private static void swap() {
        check.part("promise 13");
        SeedDrawers x = store();
        countsIn(x, 3, 1, 2);
        due("swap(2, 2, 3, 0)", x.swap(2, 2, 3, 0), 1);
        rowIs("swapped", x, 2, 10, 20, 1);
        rowIs("swapped", x, 3, 30, 2);
        x.row(4, COUNTS, 12);
        due("swap(3, 1, 4, 11)", x.swap(3, 1, 4, 11), 1);
        due("swap(4, 11, 3, 1)", x.swap(4, 11, 3, 1), 1);
        rowIs("swapped back", x, 3, 30, 2);
        due("swap(2, 0, 2, 2)", x.swap(2, 0, 2, 2), 1);
        rowIs("in one row", x, 2, 1, 20, 10);
        due("swap(2, 1, 2, 1)", x.swap(2, 1, 2, 1), 1);
        rowIs("one place", x, 2, 1, 20, 10);
        cardsIn(x, 4, "c.");
        cardsIn(x, 5, ".c");
        due("swap(4, 0, 5, 0)", x.swap(4, 0, 5, 0), 1);
        rowIs("a card with EMPTY", x, 4, 0, 0);
        rowIs("a card with EMPTY", x, 5, 1, 2);
        due("faults(0)", x.faults(0), 0);
    }

    private static void swapFaults() {
        check.part("promise 13, faults");
        SeedDrawers x = store();
        things(x, 3, DATES, 5);
        cardsIn(x, 4, ".c");
        things(x, 5, GRAINS, 6);
        due("nothing, then a note", x.swap(0, 0, 1, 0), NULL);
        due("a note, then nothing", x.swap(1, 0, 0, 0), KIND);
        due("no such place, then nothing", x.swap(2, 3, 0, 0), INDEX);
        due("a place, then nothing", x.swap(2, 2, 0, 0), NULL);
        due("a place, then a note", x.swap(2, 2, 1, 0), KIND);
        due("a place, then no such place", x.swap(2, 2, 3, 1), INDEX);
        due("a place, then no such place", x.swap(2, 2, 3, Integer.MIN_VALUE), INDEX);
        due("a count and a date", x.swap(2, 0, 3, 0), UNFIT);
        due("a date and a count", x.swap(3, 0, 2, 0), UNFIT);
        due("a grain and a count", x.swap(5, 0, 2, 0), UNFIT);
        due("a count and a grain", x.swap(2, 0, 5, 0), UNFIT);
        due("EMPTY and a count", x.swap(4, 0, 2, 0), UNFIT);
        due("a count and EMPTY", x.swap(2, 0, 4, 0), UNFIT);
        due("a card and a count", x.swap(4, 1, 2, 0), UNFIT);
        rowIs("with a fault both are as they were", x, 2, 10, 20, 30);
        rowIs("with a fault both are as they were", x, 3, 5);
        rowIs("with a fault both are as they were", x, 4, 0, 1);
        rowIs("with a fault both are as they were", x, 5, 6);
        due("a fault is met once a call", x.faults(0), 14);
        due("faults(4)", x.faults(4), 7);
        for (int d : NO_DRAWERS) {
            due("swap(" + d + ", 0, 2, 0)", x.swap(d, 0, 2, 0), UNKNOWN);
            due("swap(0, 0, " + d + ", 0)", x.swap(0, 0, d, 0), UNKNOWN);
        }
        due("refused is no fault", x.faults(0), 14);
    }

    private static void turn() {
        check.part("promise 14");
        SeedDrawers x = store();
        due("turn(2)", x.turn(2), 1);
        rowIs("turned", x, 2, 30, 20, 10);
        countsIn(x, 3, 1, 2, 3, 4);
        due("turn(3)", x.turn(3), 2);
        rowIs("turned", x, 3, 4, 3, 2, 1);
        cardsIn(x, 4, "c.cc.");
        due("turn(4)", x.turn(4), 2);
        rowIs("turned", x, 4, 0, 3, 2, 0, 1);
        int[] pairs = {0, 0, 1, 1, 2, 2, 3, 3, 4, 4, 5, 5, 6};
        for (int n = 0; n <= 12; n++) {
            x.row(5, TICKS, n);
            due("turn of " + n + " places", x.turn(5), pairs[n]);
        }
        due("turn(0)", x.turn(0), NULL);
        due("turn(1)", x.turn(1), KIND);
        for (int d : NO_DRAWERS) {
            due("turn(" + d + ")", x.turn(d), UNKNOWN);
        }
        due("faults(0)", x.faults(0), 2);
    }

    private static void sum() {
        check.part("promise 15");
        SeedDrawers x = store();
        due("sum(2)", x.sum(2), 60);
        countsIn(x, 3, Integer.MAX_VALUE, Integer.MAX_VALUE, 5);
        due("sum of counts is a long", x.sum(3), 2L * Integer.MAX_VALUE + 5);
        things(x, 3, DATES, Long.MAX_VALUE, 1);
        due("sum of dates wraps", x.sum(3), Long.MIN_VALUE);
        things(x, 3, GRAINS, -128, -128, -128);
        due("sum of grains", x.sum(3), -384);
        things(x, 3, MARKS, 65535, 65535);
        due("sum of marks", x.sum(3), 131070);
        things(x, 3, TICKS, 1, 0, 1, 1);
        due("sum of ticks", x.sum(3), 3);
        cardsIn(x, 3, "c.cc");
        due("sum of cards", x.sum(3), 6);
        x.row(3, PODS, 0);
        due("sum of no places", x.sum(3), 0);
        due("faults(0)", x.faults(0), 0);
        due("sum(0)", x.sum(0), 0);
        due("fault()", x.fault(), 1);
        due("sum(1)", x.sum(1), 0);
        due("fault()", x.fault(), 2);
        for (int d : NO_DRAWERS) {
            due("sum(" + d + ")", x.sum(d), 0);
        }
        due("faults(0)", x.faults(0), 2);
    }

    private static void find() {
        check.part("promise 16");
        SeedDrawers x = store();
        countsIn(x, 3, 0, 4, 9, 4);
        due("nothing in a row of counts", x.find(3), NONE);
        x.think(COUNTS, 4);
        due("the first place", x.find(3), 1);
        x.think(COUNTS, 0);
        due("0", x.find(3), 0);
        x.think(COUNTS, 5);
        due("no such value", x.find(3), NONE);
        x.think(GRAINS, 4);
        due("another kind", x.find(3), NONE);
        x.think(DATES, 4);
        due("another kind", x.find(3), NONE);
        cardsIn(x, 4, "cc.c.");
        due("nothing finds EMPTY", x.find(4), 2);
        x.take(4, 3);
        due("a card", x.find(4), 3);
        x.card();
        due("a card that is not there", x.find(4), NONE);
        x.think(COUNTS, 2);
        due("a number among cards", x.find(4), NONE);
        x.think(COUNTS, 0);
        due("0 is not EMPTY", x.find(4), NONE);
        x.drop();
        cardsIn(x, 5, "cc");
        due("nothing in full cards", x.find(5), NONE);
        x.row(5, CARDS, 0);
        due("nothing in no places", x.find(5), NONE);
        due("faults(0)", x.faults(0), 0);
        due("find(0)", x.find(0), NULL);
        due("find(1)", x.find(1), KIND);
        for (int d : NO_DRAWERS) {
            due("find(" + d + ")", x.find(d), UNKNOWN);
        }
        due("faults(0)", x.faults(0), 2);
    }

    private static void order() {
        check.part("promise 17");
        SeedDrawers x = store();
        for (int d : NO_DRAWERS) {
            for (int op = -1; op < 6; op++) {
                due("order(" + op + ", " + d + ", 0, 0, 0)", x.order(op, d, 0, 0, 0), UNKNOWN);
                due("order(" + op + ", 0, 99, " + d + ", 0)", x.order(op, 0, 99, d, 0), UNKNOWN);
            }
        }
        int[][] wrong = {{-1, 0, 0}, {5, 0, 0}, {0, -1, 0}, {0, 21, 0}, {0, 0, -1}, {0, 0, 21},
            {Integer.MAX_VALUE, 0, 0}, {3, Integer.MIN_VALUE, 0}, {3, 0, Integer.MAX_VALUE}};
        for (int[] w : wrong) {
            due("order(" + w[0] + ", 0, " + w[1] + ", 0, " + w[2] + ")", x.order(w[0], 0, w[1], 0, w[2]), OUTSIDE);
        }
        for (int k = 0; k < 8; k++) {
            due("order", x.order(k % 5, 7, 20, 7, 20), k + 1);
        }
        due("a ninth", x.order(0, 0, 0, 0, 0), STATE);
        due("a ninth of no drawer", x.order(0, 8, 0, 0, 0), UNKNOWN);
        due("a ninth of no place", x.order(0, 0, 21, 0, 0), OUTSIDE);
        due("nothing is done yet", x.faults(0), 0);
        due("run(): the two orders to lay have nothing to lay", x.run(), 2);
        due("there is room again", x.order(0, 0, 0, 0, 0), 1);
    }

    private static void run() {
        check.part("promise 18");
        SeedDrawers x = store();
        countsIn(x, 3, 1, 2, 3, 4, 5);
        due("run() without orders", x.run(), 0);
        x.order(0, 2, 2, 3, 4);
        x.order(1, 0, 0, 3, 1);
        x.order(2, 2, 0, 3, 4);
        due("nothing is done ahead of run()", x.hand(), NONE);
        due("run()", x.run(), 3);
        due("the hand has what was taken", x.hand(), COUNTS);
        due("the hand has what was taken", x.value(), 30);
        rowIs("done", x, 2, 5, 20, 30);
        rowIs("done", x, 3, 1, 30, 3, 4, 10);
        due("the orders are none then", x.run(), 0);
        rowIs("done once", x, 2, 5, 20, 30);
        x.drop();
        x.row(4, CARDS, 1);
        x.order(1, 0, 0, 0, 0);
        x.order(1, 0, 0, 4, 0);
        x.order(1, 0, 0, 2, 20);
        due("lay with nothing is no fault", x.run(), 3);
        due("faults(0)", x.faults(0), 0);
        x.order(0, 0, 0, 0, 0);
        x.order(0, 2, 1, 0, 0);
        x.order(1, 2, 0, 3, 20);
        x.order(1, 0, 20, 3, 0);
        due("a fault ends just that one", x.run(), 2);
        rowIs("the later ones are done", x, 3, 20, 30, 3, 4, 10);
        due("faults(0)", x.faults(0), 2);
    }

    private static void runPourAndTurn() {
        check.part("promise 18, pour and turn");
        SeedDrawers x = store();
        countsIn(x, 3, 1, 2, 3, 4, 5);
        x.order(4, 2, 0, 3, 1);
        x.order(3, 3, 9, 0, 9);
        due("run()", x.run(), 2);
        rowIs("poured three, turned", x, 3, 5, 30, 20, 10, 1);
        x.order(4, 2, 1, 3, 0);
        due("run()", x.run(), 0);
        due("met(0)", x.met(0), 3);
        rowIs("what was laid stays", x, 3, 20, 30, 20, 10, 1);
        x.order(0, 4, 0, 4, 0);
        x.row(4, CARDS, 1);
        x.think(COUNTS, 3);
        due("an order tells a drawer, not what it had", x.run(), 1);
        due("EMPTY was taken", x.hand(), NONE);
    }

    private static void met() {
        check.part("promise 19");
        SeedDrawers x = store();
        due("met(0) ahead of run()", x.met(0), NONE);
        x.think(TICKS, 1);
        x.order(0, 0, 0, 0, 0);
        due("met(0) ahead of run()", x.met(0), NONE);
        x.order(3, 1, 0, 0, 0);
        x.order(2, 2, 5, 2, 0);
        x.order(1, 0, 0, 2, 0);
        x.order(3, 2, 0, 0, 0);
        x.order(4, 1, 0, 2, 0);
        x.order(0, 2, 2, 2, 2);
        x.order(1, 0, 0, 2, 3);
        due("run()", x.run(), 2);
        int[] met = {1, 2, 3, 4, 0, 2, 0, 3};
        for (int k = 0; k < 8; k++) {
            due("met(" + k + ")", x.met(k), met[k]);
        }
        for (int k : new int[] {-1, 8, Integer.MIN_VALUE, Integer.MAX_VALUE}) {
            due("met(" + k + ")", x.met(k), NONE);
        }
        x.order(3, 2, 0, 2, 0);
        x.take(1, 0);
        due("a new order and a fault of a call change nothing", x.met(0), 1);
        due("a new order and a fault of a call change nothing", x.met(7), 3);
        due("run()", x.run(), 1);
        due("met(0)", x.met(0), 0);
        due("met(1)", x.met(1), NONE);
        due("run() without orders", x.run(), 0);
        due("met(0)", x.met(0), NONE);
    }

    private static void fault() {
        check.part("promise 20");
        SeedDrawers x = store();
        due("none yet", x.fault(), 0);
        x.take(2, 7);
        due("take", x.fault(), 3);
        x.take(2, 0);
        due("a call without a fault changes nothing", x.fault(), 3);
        x.take(8, 0);
        x.row(0, 7, 0);
        x.card();
        due("refused is no fault", x.fault(), 3);
        x.lay(2, 0);
        due("lay", x.fault(), 4);
        x.find(1);
        due("find", x.fault(), 2);
        x.turn(0);
        due("turn", x.fault(), 1);
        x.order(3, 1, 0, 0, 0);
        x.order(0, 2, 9, 0, 0);
        x.order(3, 2, 0, 0, 0);
        due("an order is not done yet", x.fault(), 1);
        x.run();
        due("the latest order that came to one", x.fault(), 3);
    }

    private static void faults() {
        check.part("promise 21");
        SeedDrawers x = store();
        x.take(0, 0);
        x.size(1);
        x.sum(1);
        x.think(COUNTS, 1);
        x.lay(2, 3);
        x.pour(2, 3, 2, 0, 2);
        x.swap(2, -1, 2, 0);
        x.think(TICKS, 1);
        x.lay(2, 0);
        x.order(1, 0, 0, 2, 0);
        x.order(1, 0, 0, 2, 1);
        x.order(1, 0, 0, 2, 2);
        x.run();
        int[] counts = {10, 1, 2, 3, 4};
        for (int of = 0; of < 5; of++) {
            due("faults(" + of + ")", x.faults(of), counts[of]);
        }
        for (int of : new int[] {-1, 5, Integer.MIN_VALUE, Integer.MAX_VALUE}) {
            due("faults(" + of + ")", x.faults(of), NONE);
        }
    }

    private static void told() {
        check.part("promise 22");
        SeedDrawers x = store();
        due("told(0, 0)", x.told(0, 0), 0);
        due("told(1, 0)", x.told(1, 0), 1);
        for (int kind = 0; kind < 7; kind++) {
            x.row(3, kind, kind);
            due("a row of " + kind, x.told(3, 0), 2 + kind);
            due("a row of " + kind, x.told(3, 1), 1);
        }
        due("told(2, 1)", x.told(2, 1), 1);
        due("told(2, 2)", x.told(2, 2), 0);
        x.row(4, COUNTS, 3);
        due("a row alike is not the same", x.told(2, 1), 1);
        x.share(5, 2);
        x.share(6, 5);
        due("told(2, 1)", x.told(2, 1), 3);
        due("told(6, 1)", x.told(6, 1), 3);
        x.clear(2);
        due("told(6, 1)", x.told(6, 1), 2);
        due("told(2, 1)", x.told(2, 1), 0);
        x.share(7, 1);
        due("no row", x.told(7, 1), 0);
        due("told(7, 2)", x.told(7, 2), 77);
        x.row(7, TICKS, 1);
        due("a row where a note was", x.told(7, 2), 0);
        for (int d : NO_DRAWERS) {
            due("told(" + d + ", 0)", x.told(d, 0), UNKNOWN);
            due("told(" + d + ", 3)", x.told(d, 3), UNKNOWN);
        }
        for (int what : new int[] {-1, 3, Integer.MIN_VALUE, Integer.MAX_VALUE}) {
            due("told(0, " + what + ")", x.told(0, what), OUTSIDE);
        }
        due("faults(0)", x.faults(0), 0);
    }

    private static void hand() {
        check.part("promise 23");
        SeedDrawers x = store();
        due("hand()", x.hand(), NONE);
        for (int kind = 0; kind < 6; kind++) {
            x.think(kind, 0);
            due("hand()", x.hand(), kind);
        }
        x.card();
        due("hand()", x.hand(), CARDS);
        x.take(2, 0);
        due("hand()", x.hand(), COUNTS);
        x.drop();
        due("hand()", x.hand(), NONE);
    }

    private static void value() {
        check.part("promise 24");
        SeedDrawers x = store();
        due("value()", x.value(), 0);
        x.think(DATES, Long.MIN_VALUE);
        due("value()", x.value(), Long.MIN_VALUE);
        x.card();
        x.card();
        due("value()", x.value(), 2);
        x.take(2, 1);
        due("value()", x.value(), 20);
        x.think(COUNTS, 21);
        x.lay(2, 1);
        x.think(COUNTS, 22);
        due("what is laid does not change with the hand", x.take(2, 1), COUNTS);
        due("value()", x.value(), 21);
        x.drop();
        due("value()", x.value(), 0);
    }

    /** Rows and notes come and go in all drawers, far more often than there are drawers. */
    private static void rowsAreUsedAgain() {
        check.part("promises 2 to 5, many times");
        SeedDrawers x = new SeedDrawers();
        for (int round = 1; round <= 6; round++) {
            for (int d = 0; d < 8; d++) {
                due("row(" + d + ", 3, 2)", x.row(d, COUNTS, 2), 2);
                due("a new row has no note", x.told(d, 2), 0);
                due("sum of a new row", x.sum(d), 0);
                x.think(COUNTS, 100 * round + d);
                x.lay(d, 0);
                x.lay(d, 1);
            }
            for (int d = 0; d < 8; d++) {
                due("sum(" + d + ")", x.sum(d), 2 * (100 * round + d));
                due("told(" + d + ", 1)", x.told(d, 1), 1);
                due("note(" + d + ", 5)", x.note(d, 5), 1);
            }
        }
    }
}
