/** The boundary sentences of promises 17 to 19: order, run, met. */
public final class OrdersEdgesTest extends Edges {
    private static final int TAKE = 0, LAY = 1, SWAP = 2, TURN = 3, POUR = 4;

    public static void main(String[] args) {
        order();
        ops();
        run();
        met();
        end();
    }

    private static void order() {
        test("17: how many there are", OrdersEdgesTest::orderCounts);
        test("17: an ORDER is not done yet", OrdersEdgesTest::orderIsNotDone);
        test("17: UNKNOWN (a)", OrdersEdgesTest::orderUnknownFirst);
        test("17: UNKNOWN (b)", OrdersEdgesTest::orderUnknownSecond);
        test("17: OUTSIDE: op", OrdersEdgesTest::orderOfNoOp);
        test("17: OUTSIDE: i not 0 .. 20", OrdersEdgesTest::orderOutsideFirst);
        test("17: OUTSIDE: j not 0 .. 20", OrdersEdgesTest::orderOutsideSecond);
        test("17: STATE: there are 8", OrdersEdgesTest::orderBeyond8);
        test("17: UNKNOWN ahead of OUTSIDE", OrdersEdgesTest::orderUnknownBeforeOutside);
        test("17: UNKNOWN and OUTSIDE ahead of STATE", OrdersEdgesTest::orderRefusedBeforeState);
    }

    private static void orderCounts() {
        SeedDrawers x = new SeedDrawers();
        for (int k = 1; k <= 8; k++) {
            due("order(3, 0, 0, 0, 0)", x.order(TURN, 0, 0, 0, 0), k);
        }
        x.run();
        for (int k = 1; k <= 8; k++) {
            due("order(0, 7, 20, 7, 20) behind run()", x.order(TAKE, 7, 20, 7, 20), k);
        }
    }

    private static void orderIsNotDone() {
        SeedDrawers x = Scene.full();
        due("a third order", x.order(TAKE, 2, 0, 2, 0), 3);
        x.order(SWAP, 2, 0, 2, 1);
        x.order(TURN, 4, 0, 0, 0);
        x.order(TAKE, 0, 0, 0, 0);
        handIs(x, MARKS, 120);
        due("faults(0)", x.faults(0), 3);
        due("met(0)", x.met(0), NULL);
        due("met(3)", x.met(3), NONE);
        rowIs(x, 2, "10 20 30");
        rowIs(x, 4, "1 - 2");
    }

    private static void orderUnknownFirst() {
        for (int d : NO_DRAWERS) {
            for (int op = TAKE; op <= POUR; op++) {
                int of = op;
                changesNothing("order(" + op + ", " + d + ", 0, 2, 0)", x -> x.order(of, d, 0, 2, 0), UNKNOWN);
            }
        }
        SeedDrawers x = new SeedDrawers();
        due("order(0, 0, 0, 0, 0)", x.order(TAKE, 0, 0, 0, 0), 1);
        due("order(0, 7, 0, 0, 0)", x.order(TAKE, 7, 0, 0, 0), 2);
    }

    private static void orderUnknownSecond() {
        for (int d : NO_DRAWERS) {
            for (int op = TAKE; op <= POUR; op++) {
                int of = op;
                changesNothing("order(" + op + ", 2, 0, " + d + ", 0)", x -> x.order(of, 2, 0, d, 0), UNKNOWN);
            }
        }
        SeedDrawers x = new SeedDrawers();
        due("order(1, 0, 0, 0, 0)", x.order(LAY, 0, 0, 0, 0), 1);
        due("order(1, 0, 0, 7, 0)", x.order(LAY, 0, 0, 7, 0), 2);
    }

    private static void orderOfNoOp() {
        for (int op : new int[] {-1, 5, LOWEST, HIGHEST}) {
            changesNothing("order(" + op + ", 2, 0, 2, 0)", x -> x.order(op, 2, 0, 2, 0), OUTSIDE);
        }
        SeedDrawers x = new SeedDrawers();
        for (int op = TAKE; op <= POUR; op++) {
            due("order(" + op + ", 0, 0, 0, 0)", x.order(op, 0, 0, 0, 0), op + 1);
        }
    }

    private static void orderOutsideFirst() {
        for (int i : NOT_TO_20) {
            for (int op = TAKE; op <= POUR; op++) {
                int of = op;
                changesNothing("order(" + op + ", 2, " + i + ", 2, 0)", x -> x.order(of, 2, i, 2, 0), OUTSIDE);
            }
        }
        SeedDrawers x = new SeedDrawers();
        due("order(0, 0, 0, 0, 5)", x.order(TAKE, 0, 0, 0, 5), 1);
        due("order(0, 0, 20, 0, 5)", x.order(TAKE, 0, 20, 0, 5), 2);
    }

    private static void orderOutsideSecond() {
        for (int j : NOT_TO_20) {
            for (int op = TAKE; op <= POUR; op++) {
                int of = op;
                changesNothing("order(" + op + ", 2, 0, 2, " + j + ")", x -> x.order(of, 2, 0, 2, j), OUTSIDE);
            }
        }
        SeedDrawers x = new SeedDrawers();
        due("order(1, 0, 5, 0, 0)", x.order(LAY, 0, 5, 0, 0), 1);
        due("order(1, 0, 5, 0, 20)", x.order(LAY, 0, 5, 0, 20), 2);
    }

    /** A full scene with as many orders as there may be: two, and six to swap the first two counts. */
    private static SeedDrawers with8Orders() {
        SeedDrawers x = Scene.full();
        for (int k = 3; k <= 8; k++) {
            x.order(SWAP, 2, 0, 2, 1);
        }
        return x;
    }

    private static void orderBeyond8() {
        SeedDrawers x = with8Orders();
        due("a ninth", x.order(TAKE, 0, 0, 0, 0), STATE);
        due("a tenth", x.order(TAKE, 0, 0, 0, 0), STATE);
        due("run(): the eight are done", x.run(), 8);
        due("met(7)", x.met(7), 0);
        due("met(8)", x.met(8), NONE);
        due("faults(0): the ninth is not", x.faults(0), 3);
        due("an order behind run()", x.order(TAKE, 0, 0, 0, 0), 1);
        for (int op = TAKE; op <= POUR; op++) {
            int of = op;
            changesNothingIn(OrdersEdgesTest::with8Orders, "order(" + op + ", 2, 0, 7, 0)",
                y -> y.order(of, 2, 0, 7, 0), STATE);
        }
    }

    private static void orderUnknownBeforeOutside() {
        for (int d : NO_DRAWERS) {
            changesNothing("order(5, " + d + ", 0, 2, 0)", x -> x.order(5, d, 0, 2, 0), UNKNOWN);
            changesNothing("order(-1, 2, 0, " + d + ", 0)", x -> x.order(-1, 2, 0, d, 0), UNKNOWN);
            changesNothing("order(0, " + d + ", 21, 2, 0)", x -> x.order(TAKE, d, 21, 2, 0), UNKNOWN);
            changesNothing("order(1, 2, 0, " + d + ", -1)", x -> x.order(LAY, 2, 0, d, -1), UNKNOWN);
        }
    }

    private static void orderRefusedBeforeState() {
        for (int d : NO_DRAWERS) {
            changesNothingIn(OrdersEdgesTest::with8Orders, "order(0, " + d + ", 0, 2, 0)",
                x -> x.order(TAKE, d, 0, 2, 0), UNKNOWN);
            changesNothingIn(OrdersEdgesTest::with8Orders, "order(0, 2, 0, " + d + ", 0)",
                x -> x.order(TAKE, 2, 0, d, 0), UNKNOWN);
        }
        int[][] outside = {{-1, 0, 0}, {5, 0, 0}, {TAKE, -1, 0}, {TAKE, 21, 0}, {TAKE, 0, -1}, {TAKE, 0, 21}};
        for (int[] o : outside) {
            changesNothingIn(OrdersEdgesTest::with8Orders, "order(" + o[0] + ", 2, " + o[1] + ", 2, " + o[2] + ")",
                x -> x.order(o[0], 2, o[1], 2, o[2]), OUTSIDE);
        }
    }

    private static void ops() {
        test("17: op 0 take(a, i)", OrdersEdgesTest::opTake);
        test("17: op 0 from an EMPTY place", OrdersEdgesTest::opTakeEmpty);
        test("17: op 1 lay(b, j)", OrdersEdgesTest::opLay);
        test("17: op 1 with nothing in THE HAND: nothing is done, no FAULT", OrdersEdgesTest::opLayNothing);
        test("17: op 2 swap(a, i, b, j)", OrdersEdgesTest::opSwap);
        test("17: op 3 turn(a)", OrdersEdgesTest::opTurn);
        test("17: op 4 pour(a, i, b, j, 3)", OrdersEdgesTest::opPour);
        test("17: op 4: a FAULT ends it, what was laid ahead of it stays", OrdersEdgesTest::opPourFaults);
        test("17: an ORDER's FAULTS are those of its call", OrdersEdgesTest::opFaults);
    }

    /** A full scene without orders. */
    private static SeedDrawers withoutOrders() {
        SeedDrawers x = Scene.full();
        x.clear(7);
        x.drop();
        x.run();
        Scene.fill(x, 7, DATES, 1, 2, 3, 4, 5, 6, 7, 8, 9, 10, 11, 12);
        x.think(MARKS, 120);
        return x;
    }

    private static void opTake() {
        SeedDrawers x = withoutOrders();
        x.order(TAKE, 7, 11, 2, 0);
        due("run()", x.run(), 1);
        handIs(x, DATES, 12);
        rowIs(x, 2, "10 20 30");
        rowIs(x, 7, "1 2 3 4 5 6 7 8 9 10 11 12");
    }

    private static void opTakeEmpty() {
        SeedDrawers x = withoutOrders();
        x.order(TAKE, 4, 1, 4, 0);
        due("run()", x.run(), 1);
        due("met(0)", x.met(0), 0);
        handIs(x, NONE, 0);
    }

    private static void opLay() {
        SeedDrawers x = withoutOrders();
        x.order(LAY, 2, 0, 7, 11);
        due("run()", x.run(), 1);
        handIs(x, MARKS, 120);
        rowIs(x, 2, "10 20 30");
        rowIs(x, 7, "1 2 3 4 5 6 7 8 9 10 11 120");
    }

    private static void opLayNothing() {
        int faults = 4;
        for (int d = 0; d < 8; d++) {
            SeedDrawers x = withoutOrders();
            x.drop();
            due("faults(0) ahead of it", x.faults(0), faults);
            x.order(LAY, 0, 0, d, 0);
            x.order(LAY, 0, 0, d, 20);
            due("run() with lay(" + d + ", 0) and lay(" + d + ", 20)", x.run(), 2);
            due("met(0)", x.met(0), 0);
            due("met(1)", x.met(1), 0);
            due("faults(0)", x.faults(0), faults);
            due("the drawer's first place is as it was, " + d, firstOf(x, d), firstOf(withoutOrders(), d));
        }
        SeedDrawers x = withoutOrders();
        x.order(TAKE, 4, 1, 0, 0);
        x.order(LAY, 0, 0, 4, 0);
        due("run(): an EMPTY place is taken, then laid", x.run(), 2);
        rowIs(x, 4, "1 - 2");
    }

    private static long firstOf(SeedDrawers x, int drawer) {
        x.drop();
        x.take(drawer, 0);
        return x.value();
    }

    private static void opSwap() {
        SeedDrawers x = withoutOrders();
        Scene.fill(x, 5, DATES, 100, 101);
        x.order(SWAP, 7, 11, 5, 0);
        due("run()", x.run(), 1);
        rowIs(x, 7, "1 2 3 4 5 6 7 8 9 10 11 100");
        rowIs(x, 5, "12 101");
    }

    private static void opTurn() {
        SeedDrawers x = withoutOrders();
        x.order(TURN, 4, 20, 2, 20);
        x.order(TURN, 6, 0, 0, 0);
        due("run()", x.run(), 2);
        rowIs(x, 4, "2 - 1");
        rowIs(x, 2, "10 20 30");
    }

    private static void opPour() {
        SeedDrawers x = withoutOrders();
        x.order(POUR, 2, 0, 7, 9);
        due("run()", x.run(), 1);
        rowIs(x, 7, "1 2 3 4 5 6 7 8 9 10 20 30");
        x.order(POUR, 7, 0, 7, 1);
        due("run()", x.run(), 1);
        rowIs(x, 7, "1 1 1 1 5 6 7 8 9 10 20 30");
    }

    private static void opPourFaults() {
        SeedDrawers x = withoutOrders();
        x.order(POUR, 2, 1, 7, 0);
        x.order(POUR, 2, 0, 7, 10);
        due("run()", x.run(), 0);
        due("met(0)", x.met(0), INDEX);
        due("met(1)", x.met(1), INDEX);
        rowIs(x, 7, "20 30 3 4 5 6 7 8 9 10 10 20");
    }

    private static void opFaults() {
        int[][] orders = {
            {TAKE, 0, 0, 2, 0, NULL}, {TAKE, 1, 0, 2, 0, KIND}, {TAKE, 2, 3, 2, 0, INDEX}, {TAKE, 7, 20, 2, 0, INDEX},
            {LAY, 2, 0, 0, 0, NULL}, {LAY, 2, 0, 1, 0, KIND}, {LAY, 2, 0, 2, 3, INDEX}, {LAY, 2, 0, 5, 0, UNFIT},
            {LAY, 2, 0, 5, 2, INDEX}, {SWAP, 0, 0, 1, 0, NULL}, {SWAP, 2, 0, 1, 0, KIND}, {SWAP, 2, 0, 2, 20, INDEX},
            {SWAP, 2, 0, 7, 0, UNFIT}, {SWAP, 7, 0, 2, 0, UNFIT}, {TURN, 0, 0, 2, 0, NULL}, {TURN, 1, 0, 2, 0, KIND},
            {POUR, 0, 0, 1, 0, NULL}, {POUR, 2, 0, 1, 0, KIND}, {POUR, 2, 3, 7, 0, INDEX}, {POUR, 4, 0, 7, 0, UNFIT},
            {POUR, 4, 1, 7, 0, UNFIT}};
        for (int[] o : orders) {
            SeedDrawers x = withoutOrders();
            int before = x.faults(0);
            int beforeOfIt = x.faults(o[5]);
            String name = "order(" + o[0] + ", " + o[1] + ", " + o[2] + ", " + o[3] + ", " + o[4] + ")";
            x.order(o[0], o[1], o[2], o[3], o[4]);
            due(name + ", run()", x.run(), 0);
            due(name + ", met(0)", x.met(0), o[5]);
            due(name + ", fault()", x.fault(), o[5]);
            due(name + ", faults(0)", x.faults(0), before + 1);
            due(name + ", faults(" + o[5] + ")", x.faults(o[5]), beforeOfIt + 1);
            handIs(x, MARKS, 120);
            rowIs(x, 2, "10 20 30");
            rowIs(x, 4, "1 - 2");
            rowIs(x, 7, "1 2 3 4 5 6 7 8 9 10 11 12");
        }
    }

    private static void run() {
        test("18: All ORDERS are done, one by one", OrdersEdgesTest::runOneByOne);
        test("18: all 8 are done", OrdersEdgesTest::runAll8);
        test("18: and are none then", OrdersEdgesTest::runLeavesNone);
        test("18: without ORDERS: 0", OrdersEdgesTest::runNone);
        test("18: a FAULT ends just that one", OrdersEdgesTest::runGoesOn);
        test("18: how many came to none", OrdersEdgesTest::runCounts);
        test("18: an ORDER is of what its DRAWERS have at run()", OrdersEdgesTest::runIsOfNow);
    }

    private static void runOneByOne() {
        SeedDrawers x = withoutOrders();
        x.order(TAKE, 2, 0, 0, 0);
        x.order(LAY, 0, 0, 7, 0);
        x.order(TURN, 2, 0, 0, 0);
        x.order(TAKE, 2, 0, 0, 0);
        x.order(LAY, 0, 0, 7, 1);
        x.order(POUR, 2, 0, 7, 2);
        due("run()", x.run(), 6);
        handIs(x, COUNTS, 30);
        rowIs(x, 7, "10 30 30 20 10 6 7 8 9 10 11 12");
    }

    private static void runAll8() {
        SeedDrawers x = withoutOrders();
        for (int k = 0; k < 7; k++) {
            x.order(SWAP, 7, k, 7, k + 1);
        }
        x.order(LAY, 0, 0, 7, 11);
        due("run()", x.run(), 8);
        rowIs(x, 7, "2 3 4 5 6 7 8 1 9 10 11 120");
    }

    private static void runLeavesNone() {
        SeedDrawers x = withoutOrders();
        x.order(SWAP, 2, 0, 2, 1);
        due("run()", x.run(), 1);
        due("run() again", x.run(), 0);
        rowIs(x, 2, "20 10 30");
        due("an order behind it", x.order(TURN, 2, 0, 0, 0), 1);
        due("run()", x.run(), 1);
        rowIs(x, 2, "30 10 20");
    }

    private static void runNone() {
        SeedDrawers x = new SeedDrawers();
        due("run()", x.run(), 0);
        x.order(TAKE, 0, 0, 0, 0);
        due("run() of one that comes to a FAULT", x.run(), 0);
        due("run()", x.run(), 0);
        due("faults(0)", x.faults(0), 1);
    }

    private static void runGoesOn() {
        SeedDrawers x = withoutOrders();
        x.order(TAKE, 0, 0, 0, 0);
        x.order(TAKE, 2, 2, 0, 0);
        x.order(LAY, 0, 0, 5, 0);
        x.order(SWAP, 2, 0, 7, 0);
        x.order(LAY, 0, 0, 7, 0);
        x.order(TURN, 1, 0, 0, 0);
        x.order(POUR, 2, 1, 7, 1);
        x.order(TURN, 2, 0, 0, 0);
        due("run()", x.run(), 3);
        rowIs(x, 2, "30 20 10");
        rowIs(x, 5, "-1 5");
        rowIs(x, 7, "30 20 30 4 5 6 7 8 9 10 11 12");
    }

    private static void runCounts() {
        for (int faults = 0; faults <= 8; faults++) {
            SeedDrawers x = withoutOrders();
            int before = x.faults(0);
            for (int k = 0; k < 8; k++) {
                x.order(TURN, k < faults ? 0 : 2, 0, 0, 0);
            }
            due("run() with " + faults + " faults", x.run(), 8 - faults);
            due("faults(0)", x.faults(0), before + faults);
        }
    }

    private static void runIsOfNow() {
        SeedDrawers x = withoutOrders();
        x.order(TAKE, 0, 0, 0, 0);
        x.order(TURN, 2, 0, 0, 0);
        Scene.fill(x, 0, PODS, -3);
        x.clear(2);
        due("run()", x.run(), 1);
        due("met(0)", x.met(0), 0);
        due("met(1)", x.met(1), NULL);
        handIs(x, PODS, -3);
        rowIs(x, 3, "10 20 30");
    }

    private static void met() {
        test("19: the FAULT that it came to, 0 without", OrdersEdgesTest::metEveryFault);
        test("19: NONE: there is none such, ahead of a run()", OrdersEdgesTest::metAheadOfRun);
        test("19: NONE: there is none such, on both sides", OrdersEdgesTest::metBeyond);
        test("19: of the latest run()", OrdersEdgesTest::metOfLatest);
        test("19: of the latest run(), which had no ORDERS", OrdersEdgesTest::metOfNone);
        test("19: orders and calls behind run() are not of it", OrdersEdgesTest::metStays);
    }

    private static void metEveryFault() {
        SeedDrawers x = withoutOrders();
        x.order(TURN, 2, 0, 0, 0);
        x.order(TURN, 0, 0, 0, 0);
        x.order(TURN, 1, 0, 0, 0);
        x.order(TAKE, 2, 3, 0, 0);
        x.order(LAY, 0, 0, 5, 0);
        x.order(TURN, 2, 0, 0, 0);
        x.run();
        int[] met = {0, NULL, KIND, INDEX, UNFIT, 0};
        for (int k = 0; k < met.length; k++) {
            due("met(" + k + ")", x.met(k), met[k]);
        }
    }

    private static void metAheadOfRun() {
        SeedDrawers x = new SeedDrawers();
        x.order(TURN, 0, 0, 0, 0);
        x.turn(0);
        for (int k : new int[] {-1, 0, 1, 8}) {
            due("met(" + k + ")", x.met(k), NONE);
        }
    }

    private static void metBeyond() {
        for (int orders = 1; orders <= 8; orders++) {
            SeedDrawers x = new SeedDrawers();
            for (int k = 0; k < orders; k++) {
                x.order(TURN, 0, 0, 0, 0);
            }
            x.run();
            due("met(0) of " + orders, x.met(0), NULL);
            due("met(" + (orders - 1) + ") of " + orders, x.met(orders - 1), NULL);
            for (int k : new int[] {-1, orders, 8, LOWEST, HIGHEST}) {
                due("met(" + k + ") of " + orders, x.met(k), NONE);
            }
        }
    }

    private static void metOfLatest() {
        SeedDrawers x = new SeedDrawers();
        for (int k = 0; k < 8; k++) {
            x.order(TURN, 0, 0, 0, 0);
        }
        x.run();
        x.note(0, 5);
        x.order(TURN, 0, 0, 0, 0);
        x.order(LAY, 0, 0, 0, 0);
        x.run();
        due("met(0)", x.met(0), KIND);
        due("met(1)", x.met(1), 0);
        due("met(2)", x.met(2), NONE);
        due("met(7)", x.met(7), NONE);
    }

    private static void metOfNone() {
        SeedDrawers x = new SeedDrawers();
        x.order(TURN, 0, 0, 0, 0);
        x.run();
        due("met(0)", x.met(0), NULL);
        x.run();
        due("met(0)", x.met(0), NONE);
    }

    private static void metStays() {
        SeedDrawers x = new SeedDrawers();
        x.order(LAY, 0, 0, 0, 0);
        x.order(TURN, 0, 0, 0, 0);
        x.run();
        x.note(0, 5);
        x.turn(0);
        x.order(TURN, 0, 0, 0, 0);
        x.order(TURN, 0, 0, 0, 0);
        x.order(TURN, 0, 0, 0, 0);
        due("met(0)", x.met(0), 0);
        due("met(1)", x.met(1), NULL);
        due("met(2)", x.met(2), NONE);
    }
}
