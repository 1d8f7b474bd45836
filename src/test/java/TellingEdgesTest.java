/** The boundary sentences of promises 20 to 24: fault, faults, told, hand, value. */
public final class TellingEdgesTest extends Edges {
    public static void main(String[] args) {
        fault();
        faults();
        told();
        hand();
        value();
        end();
    }

    private static void fault() {
        test("20: 0: none yet", TellingEdgesTest::faultNoneYet);
        test("20: the latest call that came to one", TellingEdgesTest::faultOfCalls);
        test("20: the latest ORDER that came to one", TellingEdgesTest::faultOfOrders);
        test("20: calls that are refused or come to none are not told", TellingEdgesTest::faultStays);
    }

    private static void faultNoneYet() {
        SeedDrawers x = new SeedDrawers();
        due("fault()", x.fault(), 0);
        x.lay(0, 0);
        x.take(8, 0);
        x.row(0, 7, 0);
        x.sum(-1);
        x.row(0, CARDS, 1);
        x.take(0, 0);
        x.find(0);
        x.order(1, 0, 0, 1, 0);
        x.run();
        due("fault() behind refused calls, EMPTY and NONE", x.fault(), 0);
        due("faults(0)", x.faults(0), 0);
    }

    private static void faultOfCalls() {
        SeedDrawers x = Scene.full();
        due("take(0, 0)", x.take(0, 0), -11);
        due("fault()", x.fault(), NULL);
        due("lay(5, 0)", x.lay(5, 0), -14);
        due("fault()", x.fault(), UNFIT);
        due("size(1)", x.size(1), -12);
        due("fault()", x.fault(), KIND);
        due("pour(2, 3, 7, 0, 1)", x.pour(2, 3, 7, 0, 1), -100);
        due("fault()", x.fault(), INDEX);
        due("turn(0)", x.turn(0), -11);
        due("fault()", x.fault(), NULL);
        due("swap(2, 0, 7, 0)", x.swap(2, 0, 7, 0), -14);
        due("fault()", x.fault(), UNFIT);
        due("sum(1)", x.sum(1), 0);
        due("fault()", x.fault(), KIND);
        due("find(0)", x.find(0), -11);
        due("fault()", x.fault(), NULL);
    }

    private static void faultOfOrders() {
        SeedDrawers x = new SeedDrawers();
        x.note(1, 5);
        x.row(2, CARDS, 1);
        x.order(3, 0, 0, 0, 0);
        x.order(3, 1, 0, 0, 0);
        x.order(3, 2, 0, 0, 0);
        due("fault() ahead of run()", x.fault(), 0);
        x.run();
        due("fault(): the second order's", x.fault(), KIND);
        x.take(2, 1);
        due("fault(): a later call's", x.fault(), INDEX);
        x.order(3, 2, 0, 0, 0);
        x.run();
        due("fault() behind an order without one", x.fault(), INDEX);
    }

    private static void faultStays() {
        SeedDrawers x = Scene.full();
        x.lay(5, 0);
        x.lay(2, 0);
        x.take(2, 1);
        x.take(4, 1);
        x.lay(4, 0);
        x.take(-1, 0);
        x.pour(2, 21, 7, 0, 1);
        x.sum(8);
        x.run();
        x.run();
        x.clear(2);
        x.drop();
        due("fault()", x.fault(), UNFIT);
    }

    private static void faults() {
        test("21: of a number 1 .. 4", TellingEdgesTest::faultsOfEach);
        test("21: of 0 all together", TellingEdgesTest::faultsOfAll);
        test("21: calls and ORDERS", TellingEdgesTest::faultsOfOrders);
        test("21: what is refused met none", TellingEdgesTest::faultsOfRefused);
        test("21: NONE: another number", TellingEdgesTest::faultsOfNone);
        test("21: in all: as many as 512 calls can meet", TellingEdgesTest::faultsOfMany);
    }

    /** Calls that come to one NULL, two KIND, three INDEX and four UNFIT. */
    private static SeedDrawers withTenFaults() {
        SeedDrawers x = new SeedDrawers();
        x.note(1, 5);
        x.row(2, COUNTS, 1);
        x.take(0, 0);
        x.size(1);
        x.find(1);
        x.take(2, 1);
        x.swap(2, 0, 2, -1);
        x.pour(2, 0, 2, 0, 2);
        x.think(DATES, 0);
        for (int k = 0; k < 4; k++) {
            x.lay(2, 0);
        }
        return x;
    }

    private static void faultsOfEach() {
        SeedDrawers x = withTenFaults();
        for (int of = 1; of <= 4; of++) {
            due("faults(" + of + ")", x.faults(of), of);
        }
    }

    private static void faultsOfAll() {
        due("faults(0)", withTenFaults().faults(0), 10);
        due("faults(0) of a new object", new SeedDrawers().faults(0), 0);
    }

    private static void faultsOfOrders() {
        SeedDrawers x = withTenFaults();
        x.order(3, 0, 0, 0, 0);
        x.order(4, 1, 0, 2, 0);
        x.order(4, 2, 0, 2, 0);
        x.order(1, 0, 0, 2, 0);
        x.order(3, 2, 0, 0, 0);
        due("faults(0) ahead of run()", x.faults(0), 10);
        due("run()", x.run(), 1);
        due("faults(0)", x.faults(0), 14);
        for (int of = 1; of <= 4; of++) {
            due("faults(" + of + ")", x.faults(of), of + 1);
        }
    }

    private static void faultsOfRefused() {
        SeedDrawers x = withTenFaults();
        x.take(8, 0);
        x.sum(8);
        x.row(0, 7, 1);
        x.pour(0, 21, 0, 0, 1);
        x.order(5, 0, 0, 0, 0);
        x.drop();
        x.lay(0, 0);
        x.told(0, 3);
        x.met(8);
        x.faults(5);
        due("faults(0)", x.faults(0), 10);
    }

    private static void faultsOfNone() {
        for (int of : new int[] {-1, 5, LOWEST, HIGHEST}) {
            changesNothing("faults(" + of + ")", x -> x.faults(of), NONE);
        }
        due("faults(0)", withTenFaults().faults(0), 10);
        due("faults(4)", withTenFaults().faults(4), 4);
    }

    private static void faultsOfMany() {
        SeedDrawers x = new SeedDrawers();
        // 56 times nine calls, 504 in all; each run() has eight orders that come to a fault.
        for (int round = 0; round < 56; round++) {
            for (int k = 0; k < 8; k++) {
                x.order(3, 0, 0, 0, 0);
            }
            x.run();
        }
        x.take(0, 0);
        due("faults(1)", x.faults(1), 56 * 8 + 1);
        due("faults(0)", x.faults(0), 56 * 8 + 1);
    }

    private static void told() {
        test("22: what = 0: 0 NOTHING, 1 a NOTE", TellingEdgesTest::toldNothingAndNote);
        test("22: what = 0: 2 and the KIND a ROW", TellingEdgesTest::toldRows);
        test("22: 1 how many DRAWERS have the same ROW", TellingEdgesTest::toldSame);
        test("22: the same ROW, not one like it", TellingEdgesTest::toldAlike);
        test("22: (0 without one)", TellingEdgesTest::toldSameWithoutRow);
        test("22: 2 its NOTE", TellingEdgesTest::toldNote);
        test("22: (0 without)", TellingEdgesTest::toldNoteWithout);
        test("22: UNKNOWN", TellingEdgesTest::toldUnknown);
        test("22: OUTSIDE", TellingEdgesTest::toldOutside);
        test("22: UNKNOWN ahead of OUTSIDE", TellingEdgesTest::toldUnknownFirst);
    }

    private static void toldNothingAndNote() {
        changesNothing("told(0, 0)", x -> x.told(0, 0), 0);
        changesNothing("told(1, 0)", x -> x.told(1, 0), 1);
        SeedDrawers x = new SeedDrawers();
        x.note(0, 0);
        due("told(0, 0) of the note 0", x.told(0, 0), 1);
        x.clear(0);
        due("told(0, 0) behind clear(0)", x.told(0, 0), 0);
    }

    private static void toldRows() {
        for (int kind = 0; kind <= 6; kind++) {
            for (int n : new int[] {0, 1, 12}) {
                SeedDrawers x = new SeedDrawers();
                x.row(0, kind, n);
                due("told(0, 0) of " + n + " places of kind " + kind, x.told(0, 0), 2 + kind);
            }
        }
    }

    private static void toldSame() {
        for (int kind = 0; kind <= 6; kind++) {
            for (int n : new int[] {0, 1, 12}) {
                SeedDrawers one = new SeedDrawers();
                one.row(0, kind, n);
                due("told(0, 1) of " + n + " places of kind " + kind, one.told(0, 1), 1);
            }
        }
        SeedDrawers x = new SeedDrawers();
        x.row(0, TICKS, 1);
        due("told(0, 1): itself", x.told(0, 1), 1);
        for (int d = 1; d < 8; d++) {
            x.share(d, d - 1);
            due("told(0, 1)", x.told(0, 1), d + 1);
            due("told(" + d + ", 1)", x.told(d, 1), d + 1);
        }
        x.clear(0);
        due("told(7, 1) behind clear(0)", x.told(7, 1), 7);
        x.note(1, 5);
        due("told(7, 1) behind note(1, 5)", x.told(7, 1), 6);
        x.row(2, TICKS, 1);
        due("told(7, 1) behind row(2, 5, 1)", x.told(7, 1), 5);
        due("told(2, 1)", x.told(2, 1), 1);
        x.share(3, 2);
        due("told(7, 1) behind share(3, 2)", x.told(7, 1), 4);
        due("told(2, 1)", x.told(2, 1), 2);
    }

    private static void toldAlike() {
        SeedDrawers x = new SeedDrawers();
        for (int d = 0; d < 8; d++) {
            x.row(d, COUNTS, 0);
        }
        for (int d = 0; d < 8; d++) {
            due("told(" + d + ", 1)", x.told(d, 1), 1);
        }
    }

    private static void toldSameWithoutRow() {
        SeedDrawers x = new SeedDrawers();
        due("told(0, 1) of NOTHING", x.told(0, 1), 0);
        x.note(1, 5);
        x.share(2, 1);
        due("told(1, 1) of a NOTE that another has, too", x.told(1, 1), 0);
        due("told(2, 1)", x.told(2, 1), 0);
        x.row(3, COUNTS, 2);
        x.share(4, 3);
        x.clear(4);
        due("told(4, 1) of a drawer that had a ROW", x.told(4, 1), 0);
        x.note(3, 5);
        due("told(3, 1) of a NOTE where a ROW was", x.told(3, 1), 0);
    }

    private static void toldNote() {
        changesNothing("told(1, 2)", x -> x.told(1, 2), 77);
        SeedDrawers x = new SeedDrawers();
        for (int v : new int[] {LOWEST, -2, -1, 0, HIGHEST}) {
            x.note(0, v);
            due("told(0, 2)", x.told(0, 2), v);
        }
        x.share(7, 0);
        x.note(0, 4);
        due("told(7, 2)", x.told(7, 2), HIGHEST);
        due("told(0, 2)", x.told(0, 2), 4);
    }

    private static void toldNoteWithout() {
        SeedDrawers x = Scene.full();
        for (int d : new int[] {0, 2, 3, 4, 5, 6, 7}) {
            due("told(" + d + ", 2)", x.told(d, 2), 0);
        }
        x.row(1, COUNTS, 1);
        due("told(1, 2) of a ROW where a NOTE was", x.told(1, 2), 0);
        x.note(1, 5);
        x.clear(1);
        due("told(1, 2) of NOTHING where a NOTE was", x.told(1, 2), 0);
        for (int d = 0; d < 8; d++) {
            x.note(d, 60 + d);
        }
        for (int d = 0; d < 8; d++) {
            x.row(d, TICKS, 1);
            due("told(" + d + ", 2) of a ROW where a NOTE was", x.told(d, 2), 0);
        }
    }

    private static void toldUnknown() {
        for (int d : NO_DRAWERS) {
            for (int what = 0; what <= 2; what++) {
                int of = what;
                changesNothing("told(" + d + ", " + what + ")", x -> x.told(d, of), UNKNOWN);
            }
        }
        SeedDrawers x = new SeedDrawers();
        x.note(7, 5);
        due("told(0, 0)", x.told(0, 0), 0);
        due("told(7, 0)", x.told(7, 0), 1);
    }

    private static void toldOutside() {
        for (int what : new int[] {-1, 3, LOWEST, HIGHEST}) {
            for (int d = 0; d < 8; d++) {
                int drawer = d;
                changesNothing("told(" + d + ", " + what + ")", x -> x.told(drawer, what), OUTSIDE);
            }
        }
        due("told(2, 0)", Scene.full().told(2, 0), 2 + COUNTS);
        due("told(1, 2)", Scene.full().told(1, 2), 77);
    }

    private static void toldUnknownFirst() {
        for (int d : NO_DRAWERS) {
            changesNothing("told(" + d + ", 3)", x -> x.told(d, 3), UNKNOWN);
            changesNothing("told(" + d + ", -1)", x -> x.told(d, -1), UNKNOWN);
        }
    }

    private static void hand() {
        test("23: The KIND of what THE HAND has", TellingEdgesTest::handOfEveryKind);
        test("23: of what was taken, the ROW's KIND", TellingEdgesTest::handOfWhatWasTaken);
        test("23: NONE", TellingEdgesTest::handOfNothing);
    }

    private static void handOfEveryKind() {
        for (int kind = 0; kind <= 5; kind++) {
            for (long v : new long[] {0, 1}) {
                SeedDrawers x = new SeedDrawers();
                x.think(kind, v);
                due("hand()", x.hand(), kind);
            }
        }
        SeedDrawers x = new SeedDrawers();
        x.card();
        due("hand()", x.hand(), CARDS);
        changesNothing("hand()", y -> y.hand(), MARKS);
        changesNothingIn(Scene::fullWithCardInHand, "hand()", y -> y.hand(), CARDS);
    }

    private static void handOfWhatWasTaken() {
        SeedDrawers x = Scene.full();
        x.think(GRAINS, 3);
        x.lay(7, 0);
        due("hand() with what was laid", x.hand(), GRAINS);
        x.take(7, 0);
        due("hand() with what was taken", x.hand(), DATES);
        x.take(4, 0);
        due("hand()", x.hand(), CARDS);
    }

    private static void handOfNothing() {
        changesNothingIn(Scene::fullWithEmptyHand, "hand()", x -> x.hand(), NONE);
        SeedDrawers x = Scene.full();
        x.take(4, 1);
        due("hand() with what comes from an EMPTY place", x.hand(), NONE);
        x.card();
        x.drop();
        due("hand() behind drop()", x.hand(), NONE);
    }

    private static void value() {
        test("24: Its VALUE", TellingEdgesTest::valueOfEveryKind);
        test("24: 0 with nothing", TellingEdgesTest::valueOfNothing);
        test("24: what is laid later does not change it", TellingEdgesTest::valueIsItsOwn);
    }

    private static void valueOfEveryKind() {
        long[] lowest = {-128, -32768, 0, LOWEST, Long.MIN_VALUE, 0};
        long[] highest = {127, 32767, 65535, HIGHEST, Long.MAX_VALUE, 1};
        for (int kind = 0; kind <= 5; kind++) {
            SeedDrawers x = new SeedDrawers();
            Scene.fill(x, 0, kind, lowest[kind], highest[kind]);
            x.think(kind, lowest[kind]);
            due("value() of the lowest of kind " + kind, x.value(), lowest[kind]);
            x.take(0, 1);
            due("value() of the highest of kind " + kind, x.value(), highest[kind]);
            x.take(0, 0);
            due("value() of the lowest of kind " + kind, x.value(), lowest[kind]);
        }
        SeedDrawers x = new SeedDrawers();
        for (int k = 1; k <= 30; k++) {
            x.card();
        }
        due("value() of the last card", x.value(), 30);
        changesNothing("value()", y -> y.value(), 120);
    }

    private static void valueOfNothing() {
        changesNothingIn(Scene::fullWithEmptyHand, "value()", x -> x.value(), 0);
        SeedDrawers x = Scene.full();
        x.take(4, 1);
        due("value() with what comes from an EMPTY place", x.value(), 0);
        x.think(DATES, 5);
        x.drop();
        due("value() behind drop()", x.value(), 0);
        due("value() of a new object", new SeedDrawers().value(), 0);
    }

    private static void valueIsItsOwn() {
        SeedDrawers x = Scene.full();
        x.take(2, 0);
        x.swap(2, 0, 2, 1);
        x.turn(2);
        x.row(2, COUNTS, 1);
        x.clear(3);
        due("value() of what was taken", x.value(), 10);
        x.lay(2, 0);
        x.think(COUNTS, 11);
        rowIs(x, 2, "10");
    }
}
