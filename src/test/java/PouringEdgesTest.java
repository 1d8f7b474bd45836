import java.util.function.Supplier;

/** The boundary sentences of promises 12 and 13: pour and swap. */
public final class PouringEdgesTest extends Edges {
    public static void main(String[] args) {
        pour();
        pourFaults();
        swap();
        swapFaults();
        end();
    }

    private static void pour() {
        test("12: Answers n", PouringEdgesTest::pourEveryNumber);
        test("12: For k below n: with n = 0 nothing is done", PouringEdgesTest::pourNone);
        test("12: place i + k, place j + k", PouringEdgesTest::pourPlaces);
        test("12: one by one, in the same DRAWER", PouringEdgesTest::pourOverlapping);
        test("12: one by one, in two DRAWERS with the same ROW", PouringEdgesTest::pourOverlappingInSame);
        test("12: what is poured stays at its place", PouringEdgesTest::pourLeavesIt);
        test("12: of another KIND that FITS", PouringEdgesTest::pourWider);
        test("12: what is at an EMPTY place is poured, too", PouringEdgesTest::pourEmpty);
        test("12: THE HAND has no part in it", PouringEdgesTest::pourLeavesTheHand);
        test("12: UNKNOWN", PouringEdgesTest::pourUnknown);
        test("12: OUTSIDE: i not 0 .. 20", PouringEdgesTest::pourFromOutside);
        test("12: OUTSIDE: j not 0 .. 20", PouringEdgesTest::pourToOutside);
        test("12: OUTSIDE: n not 0 .. 12", PouringEdgesTest::pourOutsideNumber);
        test("12: UNKNOWN ahead of OUTSIDE", PouringEdgesTest::pourUnknownFirst);
        test("12: OUTSIDE ahead of a FAULT", PouringEdgesTest::pourOutsideBeforeFault);
    }

    /** Drawer 0 has twelve counts, 1 to 12; drawer 7 twelve dates of 0. */
    private static SeedDrawers twelves() {
        SeedDrawers x = new SeedDrawers();
        Scene.fill(x, 0, COUNTS, 1, 2, 3, 4, 5, 6, 7, 8, 9, 10, 11, 12);
        x.row(7, DATES, 12);
        return x;
    }

    private static void pourEveryNumber() {
        for (int n = 0; n <= 12; n++) {
            SeedDrawers x = twelves();
            due("pour(0, 0, 7, 0, " + n + ")", x.pour(0, 0, 7, 0, n), n);
            due("sum(7)", x.sum(7), n * (n + 1) / 2);
            due("faults(0)", x.faults(0), 0);
        }
    }

    private static void pourNone() {
        for (int d = 0; d < 8; d++) {
            int drawer = d;
            changesNothing("pour(" + d + ", 0, 2, 0, 0)", x -> x.pour(drawer, 0, 2, 0, 0), 0);
            changesNothing("pour(2, 0, " + d + ", 0, 0)", x -> x.pour(2, 0, drawer, 0, 0), 0);
            changesNothing("pour(" + d + ", 20, " + d + ", 20, 0)", x -> x.pour(drawer, 20, drawer, 20, 0), 0);
        }
    }

    private static void pourPlaces() {
        SeedDrawers x = twelves();
        due("pour(0, 0, 7, 9, 3)", x.pour(0, 0, 7, 9, 3), 3);
        rowIs(x, 7, "0 0 0 0 0 0 0 0 0 1 2 3");
        due("pour(0, 9, 7, 0, 3)", x.pour(0, 9, 7, 0, 3), 3);
        rowIs(x, 7, "10 11 12 0 0 0 0 0 0 1 2 3");
        due("pour(0, 11, 7, 11, 1)", x.pour(0, 11, 7, 11, 1), 1);
        rowIs(x, 7, "10 11 12 0 0 0 0 0 0 1 2 12");
    }

    private static void pourOverlapping() {
        SeedDrawers x = twelves();
        due("pour(0, 0, 0, 1, 11)", x.pour(0, 0, 0, 1, 11), 11);
        rowIs(x, 0, "1 1 1 1 1 1 1 1 1 1 1 1");
        x = twelves();
        due("pour(0, 0, 0, 2, 5)", x.pour(0, 0, 0, 2, 5), 5);
        rowIs(x, 0, "1 2 1 2 1 2 1 8 9 10 11 12");
        x = twelves();
        due("pour(0, 1, 0, 0, 11)", x.pour(0, 1, 0, 0, 11), 11);
        rowIs(x, 0, "2 3 4 5 6 7 8 9 10 11 12 12");
        x = twelves();
        due("pour(0, 0, 0, 0, 12)", x.pour(0, 0, 0, 0, 12), 12);
        rowIs(x, 0, "1 2 3 4 5 6 7 8 9 10 11 12");
    }

    private static void pourOverlappingInSame() {
        SeedDrawers x = Scene.full();
        due("pour(2, 0, 3, 1, 2)", x.pour(2, 0, 3, 1, 2), 2);
        rowIs(x, 2, "10 10 10");
        rowIs(x, 3, "10 10 10");
        due("told(2, 1)", x.told(2, 1), 2);
    }

    private static void pourLeavesIt() {
        SeedDrawers x = twelves();
        x.pour(0, 2, 7, 0, 10);
        rowIs(x, 0, "1 2 3 4 5 6 7 8 9 10 11 12");
    }

    private static void pourWider() {
        SeedDrawers x = new SeedDrawers();
        Scene.fill(x, 0, GRAINS, -128, 127);
        x.row(1, DATES, 2);
        due("pour(0, 0, 1, 0, 2) of grains", x.pour(0, 0, 1, 0, 2), 2);
        rowIs(x, 1, "-128 127");
        due("take(1, 0)", x.take(1, 0), DATES);
        Scene.fill(x, 0, MARKS, 65535, 32768);
        due("pour(0, 0, 1, 0, 2) of marks", x.pour(0, 0, 1, 0, 2), 2);
        rowIs(x, 1, "65535 32768");
        due("told(0, 0)", x.told(0, 0), 2 + MARKS);
        due("told(1, 0)", x.told(1, 0), 2 + DATES);
    }

    private static void pourEmpty() {
        SeedDrawers x = new SeedDrawers();
        Scene.cards(x, 0, "c-c");
        Scene.cards(x, 1, "ccc");
        due("pour(0, 0, 1, 0, 3)", x.pour(0, 0, 1, 0, 3), 3);
        rowIs(x, 1, "1 - 2");
        due("pour(0, 1, 0, 0, 1)", x.pour(0, 1, 0, 0, 1), 1);
        rowIs(x, 0, "- - 2");
        due("faults(0)", x.faults(0), 0);
    }

    private static void pourLeavesTheHand() {
        SeedDrawers x = Scene.full();
        due("pour(2, 0, 7, 0, 3)", x.pour(2, 0, 7, 0, 3), 3);
        handIs(x, MARKS, 120);
        x.drop();
        due("pour(2, 0, 7, 0, 3) with nothing in the hand", x.pour(2, 0, 7, 0, 3), 3);
        handIs(x, NONE, 0);
    }

    private static void pourUnknown() {
        for (int d : NO_DRAWERS) {
            for (int n : new int[] {0, 1, 3}) {
                changesNothing("pour(" + d + ", 0, 7, 0, " + n + ")", x -> x.pour(d, 0, 7, 0, n), UNKNOWN);
                changesNothing("pour(2, 0, " + d + ", 0, " + n + ")", x -> x.pour(2, 0, d, 0, n), UNKNOWN);
                changesNothing("pour(0, 0, " + d + ", 0, " + n + ")", x -> x.pour(0, 0, d, 0, n), UNKNOWN);
            }
        }
        SeedDrawers x = twelves();
        due("pour(0, 0, 7, 0, 1)", x.pour(0, 0, 7, 0, 1), 1);
        due("pour(7, 0, 7, 1, 1)", x.pour(7, 0, 7, 1, 1), 1);
        due("pour(0, 0, 0, 1, 1)", x.pour(0, 0, 0, 1, 1), 1);
    }

    private static void pourFromOutside() {
        for (int i : NOT_TO_20) {
            changesNothing("pour(2, " + i + ", 7, 0, 1)", x -> x.pour(2, i, 7, 0, 1), OUTSIDE);
            changesNothing("pour(2, " + i + ", 7, 0, 0)", x -> x.pour(2, i, 7, 0, 0), OUTSIDE);
        }
        faultedIn(Scene::full, "pour(2, 20, 7, 0, 1)", x -> x.pour(2, 20, 7, 0, 1), -100, INDEX);
        faultedIn(Scene::full, "pour(7, 12, 7, 0, 1)", x -> x.pour(7, 12, 7, 0, 1), -100, INDEX);
        due("pour(2, 0, 7, 0, 1)", Scene.full().pour(2, 0, 7, 0, 1), 1);
    }

    private static void pourToOutside() {
        for (int j : NOT_TO_20) {
            changesNothing("pour(2, 0, 7, " + j + ", 1)", x -> x.pour(2, 0, 7, j, 1), OUTSIDE);
            changesNothing("pour(2, 0, 7, " + j + ", 0)", x -> x.pour(2, 0, 7, j, 0), OUTSIDE);
        }
        faultedIn(Scene::full, "pour(2, 0, 7, 20, 1)", x -> x.pour(2, 0, 7, 20, 1), -100, INDEX);
        faultedIn(Scene::full, "pour(2, 0, 7, 12, 1)", x -> x.pour(2, 0, 7, 12, 1), -100, INDEX);
        due("pour(2, 0, 7, 11, 1)", Scene.full().pour(2, 0, 7, 11, 1), 1);
    }

    private static void pourOutsideNumber() {
        for (int n : NOT_TO_12) {
            changesNothing("pour(2, 0, 7, 0, " + n + ")", x -> x.pour(2, 0, 7, 0, n), OUTSIDE);
            changesNothing("pour(7, 0, 7, 0, " + n + ")", x -> x.pour(7, 0, 7, 0, n), OUTSIDE);
        }
        changesNothing("pour(7, 0, 7, 0, 0)", x -> x.pour(7, 0, 7, 0, 0), 0);
        changesNothing("pour(7, 0, 7, 0, 12)", x -> x.pour(7, 0, 7, 0, 12), 12);
    }

    private static void pourUnknownFirst() {
        for (int d : NO_DRAWERS) {
            changesNothing("pour(" + d + ", 21, 7, 0, 1)", x -> x.pour(d, 21, 7, 0, 1), UNKNOWN);
            changesNothing("pour(" + d + ", 0, 7, -1, 1)", x -> x.pour(d, 0, 7, -1, 1), UNKNOWN);
            changesNothing("pour(2, 0, " + d + ", 0, 13)", x -> x.pour(2, 0, d, 0, 13), UNKNOWN);
            changesNothing("pour(2, -1, " + d + ", 0, 1)", x -> x.pour(2, -1, d, 0, 1), UNKNOWN);
        }
    }

    private static void pourOutsideBeforeFault() {
        for (int d = 0; d < 8; d++) {
            int drawer = d;
            changesNothing("pour(" + d + ", 21, 0, 0, 1)", x -> x.pour(drawer, 21, 0, 0, 1), OUTSIDE);
            changesNothing("pour(0, 0, " + d + ", 21, 1)", x -> x.pour(0, 0, drawer, 21, 1), OUTSIDE);
            changesNothing("pour(" + d + ", 0, 1, 0, 13)", x -> x.pour(drawer, 0, 1, 0, 13), OUTSIDE);
        }
    }

    private static void pourFaults() {
        test("12: TO COME to the one: NULL", () -> poursTo(0, 0, 2, 0, NULL));
        test("12: TO COME to the one: KIND", () -> poursTo(1, 0, 2, 0, KIND));
        test("12: TO COME to the one: INDEX", PouringEdgesTest::pourFromNoPlace);
        test("12: TO COME to the one, ahead of TO LAY", PouringEdgesTest::pourComesFirst);
        test("12: TO LAY: NULL", () -> poursTo(2, 2, 0, 0, NULL));
        test("12: TO LAY: KIND", () -> poursTo(2, 2, 1, 0, KIND));
        test("12: TO LAY: INDEX", PouringEdgesTest::pourToNoPlace);
        test("12: TO LAY: UNFIT", PouringEdgesTest::pourUnfit);
        test("12: TO LAY: INDEX ahead of UNFIT", PouringEdgesTest::pourUnfitToNoPlace);
        test("12: how many were laid ahead of it, less 100", PouringEdgesTest::pourEndsLate);
        test("12: (they stay)", PouringEdgesTest::pouredStays);
        test("12: a FAULT ends it: it is one FAULT", PouringEdgesTest::pourMeetsOneFault);
        test("12: fault() tells the FAULT", PouringEdgesTest::pourTellsFault);
    }

    /** A pour that comes to a fault at once, whether it is of one or of twelve. */
    private static void poursTo(int from, int i, int to, int j, int fault) {
        for (int n : new int[] {1, 12}) {
            String call = "pour(" + from + ", " + i + ", " + to + ", " + j + ", " + n + ")";
            faultedIn(Scene::full, call, x -> x.pour(from, i, to, j, n), -100, fault);
        }
    }

    private static void pourFromNoPlace() {
        poursTo(2, 3, 7, 0, INDEX);
        poursTo(2, 20, 7, 0, INDEX);
        poursTo(4, 3, 4, 0, INDEX);
        poursTo(4, 20, 4, 0, INDEX);
        poursTo(6, 0, 7, 0, INDEX);
        poursTo(7, 12, 7, 0, INDEX);
    }

    private static void pourComesFirst() {
        poursTo(0, 0, 1, 0, NULL);
        poursTo(0, 0, 2, 3, NULL);
        poursTo(0, 0, 4, 0, NULL);
        poursTo(1, 0, 0, 0, KIND);
        poursTo(1, 0, 2, 3, KIND);
        poursTo(1, 0, 4, 0, KIND);
        poursTo(2, 3, 0, 0, INDEX);
        poursTo(2, 3, 1, 0, INDEX);
        poursTo(2, 3, 4, 0, INDEX);
    }

    private static void pourToNoPlace() {
        poursTo(2, 2, 7, 12, INDEX);
        poursTo(2, 2, 7, 20, INDEX);
        poursTo(2, 0, 2, 3, INDEX);
        poursTo(4, 1, 4, 3, INDEX);
        poursTo(4, 0, 4, 20, INDEX);
        poursTo(4, 1, 4, 20, INDEX);
    }

    private static void pourUnfit() {
        poursTo(2, 2, 5, 0, UNFIT);
        poursTo(7, 0, 2, 0, UNFIT);
        poursTo(2, 0, 4, 1, UNFIT);
        poursTo(4, 0, 2, 0, UNFIT);
        poursTo(4, 1, 2, 0, UNFIT);
        poursTo(4, 1, 7, 11, UNFIT);
    }

    private static void pourUnfitToNoPlace() {
        poursTo(2, 2, 5, 2, INDEX);
        poursTo(4, 0, 2, 3, INDEX);
        poursTo(4, 1, 2, 3, INDEX);
        poursTo(7, 0, 6, 0, INDEX);
    }

    private static void pourEndsLate() {
        for (int i = 0; i <= 12; i++) {
            int left = 12 - i;
            // What is left of the first row is one too few, then what is left of the second.
            int n = Math.min(12, left + 1);
            int answer = left == 12 ? 12 : left - 100;
            due("pour(0, " + i + ", 7, 0, " + n + ")", twelves().pour(0, i, 7, 0, n), answer);
            due("pour(0, 0, 7, " + i + ", " + n + ")", twelves().pour(0, 0, 7, i, n), answer);
        }
        due("pour(0, 1, 7, 1, 12)", twelves().pour(0, 1, 7, 1, 12), -89);
    }

    private static void pouredStays() {
        SeedDrawers x = twelves();
        due("pour(0, 9, 7, 0, 4)", x.pour(0, 9, 7, 0, 4), -97);
        rowIs(x, 7, "10 11 12 0 0 0 0 0 0 0 0 0");
        due("pour(0, 0, 7, 10, 4)", x.pour(0, 0, 7, 10, 4), -98);
        rowIs(x, 7, "10 11 12 0 0 0 0 0 0 0 1 2");
        rowIs(x, 0, "1 2 3 4 5 6 7 8 9 10 11 12");
    }

    private static void pourMeetsOneFault() {
        SeedDrawers x = twelves();
        x.pour(0, 0, 1, 0, 12);
        due("faults(0)", x.faults(0), 1);
        due("faults(1)", x.faults(1), 1);
        x.pour(0, 6, 7, 0, 12);
        due("faults(0)", x.faults(0), 2);
        due("faults(3)", x.faults(3), 1);
    }

    private static void pourTellsFault() {
        SeedDrawers x = Scene.full();
        due("pour(0, 0, 2, 0, 1)", x.pour(0, 0, 2, 0, 1), -100);
        due("fault()", x.fault(), NULL);
        due("pour(2, 0, 1, 0, 1)", x.pour(2, 0, 1, 0, 1), -100);
        due("fault()", x.fault(), KIND);
        due("pour(2, 2, 7, 0, 2)", x.pour(2, 2, 7, 0, 2), -99);
        due("fault()", x.fault(), INDEX);
        due("pour(4, 0, 2, 0, 1)", x.pour(4, 0, 2, 0, 1), -100);
        due("fault()", x.fault(), UNFIT);
        due("pour(2, 0, 7, 0, 1)", x.pour(2, 0, 7, 0, 1), 1);
        due("fault() behind a pour without one", x.fault(), UNFIT);
    }

    private static void swap() {
        test("13: What is at two places changes them: 1", PouringEdgesTest::swapOfEveryKind);
        test("13: the first and the last place", PouringEdgesTest::swapFirstAndLast);
        test("13: two places of the same DRAWER", PouringEdgesTest::swapInOneDrawer);
        test("13: two places of the same ROW in two DRAWERS", PouringEdgesTest::swapInSameRow);
        test("13: a place with itself", PouringEdgesTest::swapWithItself);
        test("13: a CARD and an EMPTY place", PouringEdgesTest::swapEmpty);
        test("13: THE HAND has no part in it", PouringEdgesTest::swapLeavesTheHand);
        test("13: UNKNOWN (either)", PouringEdgesTest::swapUnknown);
    }

    private static void swapOfEveryKind() {
        String[] lowest = {"-128", "-32768", "0", "-2147483648", "-9223372036854775808", "0"};
        long[] low = {-128, -32768, 0, LOWEST, Long.MIN_VALUE, 0};
        for (int kind = 0; kind <= 5; kind++) {
            SeedDrawers x = new SeedDrawers();
            Scene.fill(x, 0, kind, 1, low[kind]);
            Scene.fill(x, 1, kind, 1, 1);
            due("swap(0, 1, 1, 0) of kind " + kind, x.swap(0, 1, 1, 0), 1);
            rowIs(x, 0, "1 1");
            rowIs(x, 1, lowest[kind] + " 1");
        }
        SeedDrawers x = new SeedDrawers();
        Scene.cards(x, 0, "cc");
        Scene.cards(x, 1, "cc");
        due("swap(0, 1, 1, 0) of cards", x.swap(0, 1, 1, 0), 1);
        rowIs(x, 0, "1 3");
        rowIs(x, 1, "2 4");
    }

    private static void swapFirstAndLast() {
        SeedDrawers x = twelves();
        Scene.fill(x, 7, COUNTS, 21, 22, 23, 24, 25, 26, 27, 28, 29, 30, 31, 32);
        due("swap(0, 0, 7, 11)", x.swap(0, 0, 7, 11), 1);
        due("swap(0, 11, 7, 0)", x.swap(0, 11, 7, 0), 1);
        rowIs(x, 0, "32 2 3 4 5 6 7 8 9 10 11 21");
        rowIs(x, 7, "12 22 23 24 25 26 27 28 29 30 31 1");
    }

    private static void swapInOneDrawer() {
        SeedDrawers x = twelves();
        due("swap(0, 0, 0, 11)", x.swap(0, 0, 0, 11), 1);
        due("swap(0, 5, 0, 4)", x.swap(0, 5, 0, 4), 1);
        rowIs(x, 0, "12 2 3 4 6 5 7 8 9 10 11 1");
    }

    private static void swapInSameRow() {
        SeedDrawers x = Scene.full();
        due("swap(2, 0, 3, 2)", x.swap(2, 0, 3, 2), 1);
        rowIs(x, 2, "30 20 10");
        rowIs(x, 3, "30 20 10");
    }

    private static void swapWithItself() {
        changesNothing("swap(2, 1, 2, 1)", x -> x.swap(2, 1, 2, 1), 1);
        changesNothing("swap(2, 1, 3, 1)", x -> x.swap(2, 1, 3, 1), 1);
        changesNothing("swap(4, 0, 4, 0)", x -> x.swap(4, 0, 4, 0), 1);
        changesNothing("swap(4, 1, 4, 1)", x -> x.swap(4, 1, 4, 1), 1);
        changesNothing("swap(7, 11, 7, 11)", x -> x.swap(7, 11, 7, 11), 1);
    }

    private static void swapEmpty() {
        SeedDrawers x = new SeedDrawers();
        Scene.cards(x, 0, "c-");
        Scene.cards(x, 1, "-c");
        due("a card and EMPTY", x.swap(0, 0, 1, 0), 1);
        rowIs(x, 0, "- -");
        rowIs(x, 1, "1 2");
        due("EMPTY and a card", x.swap(0, 1, 1, 1), 1);
        rowIs(x, 0, "- 2");
        rowIs(x, 1, "1 -");
        due("EMPTY and EMPTY", x.swap(0, 0, 1, 1), 1);
        rowIs(x, 0, "- 2");
        rowIs(x, 1, "1 -");
        due("a card and EMPTY of one row", x.swap(0, 1, 0, 0), 1);
        rowIs(x, 0, "2 -");
        due("faults(0)", x.faults(0), 0);
    }

    private static void swapLeavesTheHand() {
        SeedDrawers x = Scene.full();
        x.swap(2, 0, 2, 1);
        handIs(x, MARKS, 120);
        x.drop();
        x.swap(4, 0, 4, 1);
        handIs(x, NONE, 0);
    }

    private static void swapUnknown() {
        for (int d : NO_DRAWERS) {
            for (int other : new int[] {0, 1, 2, 7}) {
                changesNothing("swap(" + d + ", 0, " + other + ", 0)", x -> x.swap(d, 0, other, 0), UNKNOWN);
                changesNothing("swap(" + other + ", 0, " + d + ", 0)", x -> x.swap(other, 0, d, 0), UNKNOWN);
                changesNothing("swap(" + other + ", -1, " + d + ", -1)", x -> x.swap(other, -1, d, -1), UNKNOWN);
            }
        }
        SeedDrawers x = new SeedDrawers();
        x.row(0, COUNTS, 1);
        x.row(7, COUNTS, 1);
        due("swap(0, 0, 7, 0)", x.swap(0, 0, 7, 0), 1);
        due("swap(7, 0, 0, 0)", x.swap(7, 0, 0, 0), 1);
    }

    private static void swapFaults() {
        test("13: TO COME to the first: NULL", () -> swapsTo(0, 0, 2, 0, NULL));
        test("13: TO COME to the first: KIND", () -> swapsTo(1, 0, 2, 0, KIND));
        test("13: TO COME to the first: INDEX", PouringEdgesTest::swapNoPlaceFirst);
        test("13: to the second: NULL", () -> swapsTo(2, 2, 0, 0, NULL));
        test("13: to the second: KIND", () -> swapsTo(2, 2, 1, 0, KIND));
        test("13: to the second: INDEX", PouringEdgesTest::swapNoPlaceSecond);
        test("13: the first ahead of the second", PouringEdgesTest::swapFirstComesFirst);
        test("13: TO COME to both ahead of TO LAY", PouringEdgesTest::swapComesBeforeLaying);
        test("13: TO LAY what the second had at the first: UNFIT", PouringEdgesTest::swapUnfitAtFirst);
        test("13: TO LAY what the first had at the second: UNFIT", PouringEdgesTest::swapUnfitAtSecond);
        test("13: with a FAULT both are as they were", PouringEdgesTest::swapOfTwoKinds);
        test("13: a FAULT is one FAULT", PouringEdgesTest::swapMeetsOneFault);
    }

    private static void swapsTo(int a, int i, int b, int j, int fault) {
        faulted("swap(" + a + ", " + i + ", " + b + ", " + j + ")", x -> x.swap(a, i, b, j), fault);
    }

    private static void swapNoPlaceFirst() {
        for (int i : new int[] {-1, 3, 21, LOWEST, HIGHEST}) {
            swapsTo(2, i, 2, 0, INDEX);
            swapsTo(4, i, 4, 1, INDEX);
        }
        swapsTo(6, 0, 2, 0, INDEX);
        swapsTo(7, 12, 7, 11, INDEX);
        swapsTo(7, -1, 7, 0, INDEX);
    }

    private static void swapNoPlaceSecond() {
        for (int j : new int[] {-1, 3, 21, LOWEST, HIGHEST}) {
            swapsTo(2, 2, 2, j, INDEX);
            swapsTo(4, 1, 4, j, INDEX);
        }
        swapsTo(2, 0, 6, 0, INDEX);
        swapsTo(7, 11, 7, 12, INDEX);
        swapsTo(7, 0, 7, -1, INDEX);
    }

    private static void swapFirstComesFirst() {
        swapsTo(0, 0, 1, 0, NULL);
        swapsTo(0, 0, 2, 3, NULL);
        swapsTo(1, 0, 0, 0, KIND);
        swapsTo(1, 0, 2, 3, KIND);
        swapsTo(2, 3, 0, 0, INDEX);
        swapsTo(2, 3, 1, 0, INDEX);
    }

    private static void swapComesBeforeLaying() {
        swapsTo(2, 3, 4, 0, INDEX);
        swapsTo(2, 0, 4, 3, INDEX);
        swapsTo(4, 0, 2, 3, INDEX);
        swapsTo(4, 1, 2, -1, INDEX);
        swapsTo(5, 2, 7, 0, INDEX);
        swapsTo(5, 0, 7, 12, INDEX);
    }

    private static void swapUnfitAtFirst() {
        // What the first has would fit the second in each of these.
        swapsTo(5, 0, 2, 0, UNFIT);
        swapsTo(5, 1, 7, 11, UNFIT);
        swapsTo(2, 0, 7, 0, UNFIT);
    }

    private static void swapUnfitAtSecond() {
        // What the second has would fit the first in each of these.
        swapsTo(2, 0, 5, 0, UNFIT);
        swapsTo(7, 11, 5, 1, UNFIT);
        swapsTo(7, 0, 2, 0, UNFIT);
    }

    /** A row of each of two kinds, of a place that is not 0 (cards: not EMPTY) and one that is. */
    private static SeedDrawers twoKinds(int first, int second) {
        SeedDrawers x = new SeedDrawers();
        oneKind(x, 2, first);
        oneKind(x, 3, second);
        return x;
    }

    private static void oneKind(SeedDrawers x, int drawer, int kind) {
        if (kind == CARDS) {
            Scene.cards(x, drawer, "c-");
        } else {
            Scene.fill(x, drawer, kind, 1, 0);
        }
    }

    private static void swapOfTwoKinds() {
        for (int first = 0; first <= 6; first++) {
            for (int second = 0; second <= 6; second++) {
                if (first != second) {
                    swapOfTwoKinds(first, second);
                }
            }
        }
    }

    private static void swapOfTwoKinds(int first, int second) {
        Supplier<SeedDrawers> scene = () -> twoKinds(first, second);
        for (int i = 0; i < 2; i++) {
            for (int j = 0; j < 2; j++) {
                int at = i;
                int with = j;
                String name = "swap(2, " + i + ", 3, " + j + ") of kinds " + first + " and " + second;
                faultedIn(scene, name, x -> x.swap(2, at, 3, with), -14, UNFIT);
            }
        }
    }

    private static void swapMeetsOneFault() {
        SeedDrawers x = new SeedDrawers();
        x.swap(0, 0, 0, 0);
        due("faults(0)", x.faults(0), 1);
        due("faults(1)", x.faults(1), 1);
        x.row(0, CARDS, 1);
        x.row(1, COUNTS, 1);
        x.swap(0, 0, 1, 0);
        due("faults(0)", x.faults(0), 2);
        due("faults(4)", x.faults(4), 1);
    }
}
