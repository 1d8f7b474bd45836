/** The boundary sentences of promises 9 to 11 and 14 to 16: take, lay, size, turn, sum, find. */
public final class PlacesEdgesTest extends Edges {
    /** Places that are in no row, and 0, which is the first of one: with nothing or a note they make no difference. */
    private static final int[] ANY_PLACES = {0, -1, 12, 21, LOWEST, HIGHEST};

    public static void main(String[] args) {
        take();
        lay();
        size();
        turn();
        sum();
        find();
        end();
    }

    private static void take() {
        test("9: what is at a place: its KIND", PlacesEdgesTest::takeOfEveryKind);
        test("9: the first and the last place", PlacesEdgesTest::takeFirstAndLast);
        test("9: (which stays there)", PlacesEdgesTest::takeLeavesIt);
        test("9: NONE: it was EMPTY", PlacesEdgesTest::takeEmpty);
        test("9: UNKNOWN", PlacesEdgesTest::takeUnknown);
        test("9: FAULTS: TO COME: NULL", PlacesEdgesTest::takeFromNothing);
        test("9: FAULTS: TO COME: KIND", PlacesEdgesTest::takeFromNote);
        test("9: FAULTS: TO COME: INDEX", PlacesEdgesTest::takeFromNoPlace);
    }

    private static void takeOfEveryKind() {
        long[] values = {-128, -32768, 65535, LOWEST, Long.MIN_VALUE, 1};
        for (int kind = 0; kind <= 5; kind++) {
            SeedDrawers x = new SeedDrawers();
            Scene.fill(x, 0, kind, values[kind], 0);
            due("take(0, 0) of kind " + kind, x.take(0, 0), kind);
            handIs(x, kind, values[kind]);
            due("take(0, 1) of kind " + kind, x.take(0, 1), kind);
            handIs(x, kind, 0);
        }
        SeedDrawers x = new SeedDrawers();
        Scene.cards(x, 0, "cc");
        due("take(0, 1) of cards", x.take(0, 1), CARDS);
        handIs(x, CARDS, 2);
    }

    private static void takeFirstAndLast() {
        SeedDrawers x = new SeedDrawers();
        Scene.fill(x, 0, COUNTS, 7);
        Scene.fill(x, 7, COUNTS, 1, 2, 3, 4, 5, 6, 7, 8, 9, 10, 11, 12);
        due("take(0, 0) of one place", x.take(0, 0), COUNTS);
        handIs(x, COUNTS, 7);
        due("take(7, 0) of twelve", x.take(7, 0), COUNTS);
        handIs(x, COUNTS, 1);
        due("take(7, 11) of twelve", x.take(7, 11), COUNTS);
        handIs(x, COUNTS, 12);
    }

    private static void takeLeavesIt() {
        SeedDrawers x = Scene.full();
        x.take(2, 0);
        rowIs(x, 2, "10 20 30");
        x.take(4, 2);
        rowIs(x, 4, "1 - 2");
    }

    private static void takeEmpty() {
        SeedDrawers x = Scene.full();
        due("take(4, 1) with a mark in the hand", x.take(4, 1), NONE);
        handIs(x, NONE, 0);
        due("lay(4, 0)", x.lay(4, 0), STATE);
        x.take(4, 0);
        due("take(4, 1) with a card in the hand", x.take(4, 1), NONE);
        handIs(x, NONE, 0);
        due("take(4, 1) with nothing in the hand", x.take(4, 1), NONE);
        due("EMPTY is no fault", x.fault(), KIND);
    }

    private static void takeUnknown() {
        for (int d : NO_DRAWERS) {
            changesNothing("take(" + d + ", 0)", x -> x.take(d, 0), UNKNOWN);
            changesNothing("take(" + d + ", -1)", x -> x.take(d, -1), UNKNOWN);
        }
        SeedDrawers x = new SeedDrawers();
        Scene.fill(x, 0, COUNTS, 7);
        Scene.fill(x, 7, PODS, 7);
        due("take(0, 0)", x.take(0, 0), COUNTS);
        due("take(7, 0)", x.take(7, 0), PODS);
    }

    private static void takeFromNothing() {
        for (int i : ANY_PLACES) {
            faulted("take(0, " + i + ")", x -> x.take(0, i), NULL);
        }
    }

    private static void takeFromNote() {
        for (int i : ANY_PLACES) {
            faulted("take(1, " + i + ")", x -> x.take(1, i), KIND);
        }
    }

    private static void takeFromNoPlace() {
        int[] sizes = {0, 0, 3, 3, 3, 2, 0, 12};
        for (int d = 2; d < 8; d++) {
            int drawer = d;
            for (int i : new int[] {-1, sizes[d], sizes[d] + 1, LOWEST, HIGHEST}) {
                faulted("take(" + d + ", " + i + ")", x -> x.take(drawer, i), INDEX);
            }
        }
        changesNothingIn(PlacesEdgesTest::withLastDateInHand, "take(7, 11)", x -> x.take(7, 11), DATES);
    }

    private static SeedDrawers withLastDateInHand() {
        SeedDrawers x = Scene.full();
        x.take(7, 11);
        return x;
    }

    private static void lay() {
        test("10: What THE HAND has is laid at a place: 1", PlacesEdgesTest::layOfEveryKind);
        test("10: the first and the last place", PlacesEdgesTest::layFirstAndLast);
        test("10: stays in THE HAND", PlacesEdgesTest::layLeavesTheHand);
        test("10: a CARD at several places", PlacesEdgesTest::layOneCardTwice);
        test("10: UNKNOWN", PlacesEdgesTest::layUnknown);
        test("10: STATE: it has nothing", PlacesEdgesTest::layNothing);
        test("10: UNKNOWN ahead of STATE", PlacesEdgesTest::layUnknownFirst);
        test("10: FAULTS: TO LAY: NULL", PlacesEdgesTest::layInNothing);
        test("10: FAULTS: TO LAY: KIND", PlacesEdgesTest::layInNote);
        test("10: FAULTS: TO LAY: INDEX", PlacesEdgesTest::layAtNoPlace);
        test("10: FAULTS: TO LAY: UNFIT", PlacesEdgesTest::layUnfit);
        test("10: FAULTS: TO LAY: INDEX ahead of UNFIT", PlacesEdgesTest::layUnfitAtNoPlace);
    }

    private static void layOfEveryKind() {
        for (int kind = 0; kind <= 5; kind++) {
            SeedDrawers x = new SeedDrawers();
            Scene.fill(x, 0, kind, 0, 0, 0);
            x.think(kind, 1);
            due("lay(0, 1) of kind " + kind, x.lay(0, 1), 1);
            rowIs(x, 0, "0 1 0");
        }
        SeedDrawers x = new SeedDrawers();
        x.row(0, CARDS, 3);
        x.card();
        due("lay(0, 1) of a card", x.lay(0, 1), 1);
        rowIs(x, 0, "- 1 -");
    }

    private static void layFirstAndLast() {
        SeedDrawers x = new SeedDrawers();
        x.row(0, COUNTS, 1);
        x.row(7, COUNTS, 12);
        x.think(COUNTS, 5);
        due("lay(0, 0) of one place", x.lay(0, 0), 1);
        due("lay(7, 0) of twelve", x.lay(7, 0), 1);
        due("lay(7, 11) of twelve", x.lay(7, 11), 1);
        rowIs(x, 0, "5");
        rowIs(x, 7, "5 0 0 0 0 0 0 0 0 0 0 5");
    }

    private static void layLeavesTheHand() {
        SeedDrawers x = Scene.full();
        due("lay(2, 0)", x.lay(2, 0), 1);
        handIs(x, MARKS, 120);
        due("lay(7, 2)", x.lay(7, 2), 1);
        handIs(x, MARKS, 120);
        x.card();
        due("lay(4, 1)", x.lay(4, 1), 1);
        handIs(x, CARDS, 3);
    }

    private static void layOneCardTwice() {
        SeedDrawers x = Scene.fullWithCardInHand();
        due("lay(4, 0)", x.lay(4, 0), 1);
        due("lay(4, 1)", x.lay(4, 1), 1);
        due("find(4)", x.find(4), 0);
        due("sum(4)", x.sum(4), 6);
        rowIs(x, 4, "2 2 2");
    }

    private static void layUnknown() {
        for (int d : NO_DRAWERS) {
            changesNothing("lay(" + d + ", 0)", x -> x.lay(d, 0), UNKNOWN);
            changesNothing("lay(" + d + ", -1)", x -> x.lay(d, -1), UNKNOWN);
        }
        SeedDrawers x = new SeedDrawers();
        x.row(0, COUNTS, 1);
        x.row(7, COUNTS, 1);
        x.think(COUNTS, 5);
        due("lay(0, 0)", x.lay(0, 0), 1);
        due("lay(7, 0)", x.lay(7, 0), 1);
    }

    private static void layNothing() {
        for (int d = 0; d < 8; d++) {
            int drawer = d;
            for (int i : new int[] {0, 1, -1, 12}) {
                changesNothingIn(Scene::fullWithEmptyHand, "lay(" + d + ", " + i + ")", x -> x.lay(drawer, i), STATE);
            }
        }
    }

    private static void layUnknownFirst() {
        for (int d : NO_DRAWERS) {
            changesNothingIn(Scene::fullWithEmptyHand, "lay(" + d + ", 0)", x -> x.lay(d, 0), UNKNOWN);
        }
    }

    private static void layInNothing() {
        for (int i : ANY_PLACES) {
            faulted("lay(0, " + i + ")", x -> x.lay(0, i), NULL);
        }
    }

    private static void layInNote() {
        for (int i : ANY_PLACES) {
            faulted("lay(1, " + i + ")", x -> x.lay(1, i), KIND);
        }
    }

    private static void layAtNoPlace() {
        int[][] places = {{2, -1}, {2, 3}, {2, LOWEST}, {2, HIGHEST}, {3, -1}, {3, 3}, {7, -1}, {7, 12}, {7, 13}};
        for (int[] p : places) {
            faulted("lay(" + p[0] + ", " + p[1] + ")", x -> x.lay(p[0], p[1]), INDEX);
        }
        faultedIn(PlacesEdgesTest::withAPodInHand, "lay(6, 0)", x -> x.lay(6, 0), -13, INDEX);
        faultedIn(Scene::fullWithCardInHand, "lay(4, 3)", x -> x.lay(4, 3), -13, INDEX);
        faultedIn(Scene::fullWithCardInHand, "lay(4, -1)", x -> x.lay(4, -1), -13, INDEX);
    }

    private static SeedDrawers withAPodInHand() {
        SeedDrawers x = Scene.full();
        x.think(PODS, 4);
        return x;
    }

    private static void layUnfit() {
        faulted("lay(4, 0) of a mark among cards", x -> x.lay(4, 0), UNFIT);
        faulted("lay(4, 1) of a mark where it is EMPTY", x -> x.lay(4, 1), UNFIT);
        faulted("lay(5, 1) of a mark among grains", x -> x.lay(5, 1), UNFIT);
        faultedIn(Scene::fullWithCardInHand, "lay(2, 0) of a card", x -> x.lay(2, 0), -14, UNFIT);
        faultedIn(Scene::fullWithCardInHand, "lay(7, 11) of a card", x -> x.lay(7, 11), -14, UNFIT);
    }

    private static void layUnfitAtNoPlace() {
        faulted("lay(4, 3) of a mark", x -> x.lay(4, 3), INDEX);
        faulted("lay(4, -1) of a mark", x -> x.lay(4, -1), INDEX);
        faulted("lay(5, 2) of a mark", x -> x.lay(5, 2), INDEX);
        faulted("lay(6, 0) of a mark", x -> x.lay(6, 0), INDEX);
        faultedIn(Scene::fullWithCardInHand, "lay(7, 12) of a card", x -> x.lay(7, 12), -13, INDEX);
    }

    private static void size() {
        test("11: How many places a ROW has", PlacesEdgesTest::sizeOfRows);
        test("11: UNKNOWN", PlacesEdgesTest::sizeUnknown);
        test("11: FAULTS: NULL", () -> faulted("size(0)", x -> x.size(0), NULL));
        test("11: FAULTS: KIND", () -> faulted("size(1)", x -> x.size(1), KIND));
    }

    private static void sizeOfRows() {
        for (int kind = 0; kind <= 6; kind++) {
            for (int n = 0; n <= 12; n++) {
                SeedDrawers x = new SeedDrawers();
                x.row(0, kind, n);
                due("size(0) of kind " + kind, x.size(0), n);
            }
        }
        changesNothing("size(4)", x -> x.size(4), 3);
        changesNothing("size(6)", x -> x.size(6), 0);
        changesNothing("size(7)", x -> x.size(7), 12);
    }

    private static void sizeUnknown() {
        for (int d : NO_DRAWERS) {
            changesNothing("size(" + d + ")", x -> x.size(d), UNKNOWN);
        }
        SeedDrawers x = new SeedDrawers();
        x.row(0, COUNTS, 1);
        x.row(7, COUNTS, 2);
        due("size(0)", x.size(0), 1);
        due("size(7)", x.size(7), 2);
    }

    private static void turn() {
        test("14: how many pairs were swapped", PlacesEdgesTest::turnOfEverySize);
        test("14: the first place last", PlacesEdgesTest::turnValues);
        test("14: a ROW of every KIND is turned", PlacesEdgesTest::turnOfEveryKind);
        test("14: EMPTY places are turned, too", PlacesEdgesTest::turnEmpty);
        test("14: a ROW that several DRAWERS have is turned once", PlacesEdgesTest::turnSame);
        test("14: UNKNOWN", PlacesEdgesTest::turnUnknown);
        test("14: FAULTS: NULL", () -> faulted("turn(0)", x -> x.turn(0), NULL));
        test("14: FAULTS: KIND", () -> faulted("turn(1)", x -> x.turn(1), KIND));
    }

    private static void turnOfEverySize() {
        int[] pairs = {0, 0, 1, 1, 2, 2, 3, 3, 4, 4, 5, 5, 6};
        for (int n = 0; n <= 12; n++) {
            SeedDrawers x = new SeedDrawers();
            x.row(0, COUNTS, n);
            due("turn(0) of " + n + " places", x.turn(0), pairs[n]);
        }
        changesNothing("turn(6) of no places", x -> x.turn(6), 0);
    }

    private static void turnValues() {
        SeedDrawers x = new SeedDrawers();
        Scene.fill(x, 0, COUNTS, 1);
        x.turn(0);
        rowIs(x, 0, "1");
        Scene.fill(x, 0, COUNTS, 1, 2);
        x.turn(0);
        rowIs(x, 0, "2 1");
        Scene.fill(x, 0, COUNTS, 1, 2, 3);
        x.turn(0);
        rowIs(x, 0, "3 2 1");
        Scene.fill(x, 0, COUNTS, 1, 2, 3, 4, 5, 6, 7, 8, 9, 10, 11);
        x.turn(0);
        rowIs(x, 0, "11 10 9 8 7 6 5 4 3 2 1");
        Scene.fill(x, 0, COUNTS, 1, 2, 3, 4, 5, 6, 7, 8, 9, 10, 11, 12);
        x.turn(0);
        rowIs(x, 0, "12 11 10 9 8 7 6 5 4 3 2 1");
        x.turn(0);
        rowIs(x, 0, "1 2 3 4 5 6 7 8 9 10 11 12");
    }

    private static void turnOfEveryKind() {
        String[] turned = {"0 1 -1", "0 1 -1", "0 1 65535", "0 1 -1", "0 1 -1", "0 1 1"};
        for (int kind = 0; kind <= 5; kind++) {
            SeedDrawers x = new SeedDrawers();
            Scene.fill(x, 0, kind, -1, 1, 0);
            due("turn(0) of kind " + kind, x.turn(0), 1);
            rowIs(x, 0, turned[kind]);
            due("told(0, 0)", x.told(0, 0), 2 + kind);
        }
    }

    private static void turnEmpty() {
        SeedDrawers x = new SeedDrawers();
        Scene.cards(x, 0, "cc-c--");
        due("turn(0)", x.turn(0), 3);
        rowIs(x, 0, "- - 3 - 2 1");
        Scene.cards(x, 0, "---");
        due("turn(0) of EMPTY places", x.turn(0), 1);
        rowIs(x, 0, "- - -");
        due("faults(0)", x.faults(0), 0);
    }

    private static void turnSame() {
        SeedDrawers x = Scene.full();
        due("turn(3)", x.turn(3), 1);
        handIs(x, MARKS, 120);
        rowIs(x, 2, "30 20 10");
        rowIs(x, 3, "30 20 10");
        due("told(2, 1)", x.told(2, 1), 2);
    }

    private static void turnUnknown() {
        for (int d : NO_DRAWERS) {
            changesNothing("turn(" + d + ")", x -> x.turn(d), UNKNOWN);
        }
        SeedDrawers x = new SeedDrawers();
        x.row(0, COUNTS, 2);
        x.row(7, COUNTS, 4);
        due("turn(0)", x.turn(0), 1);
        due("turn(7)", x.turn(7), 2);
    }

    private static void sum() {
        test("15: All VALUES of a ROW together", PlacesEdgesTest::sumOfEveryKind);
        test("15: longs", PlacesEdgesTest::sumBeyondInts);
        test("15: longs, which wrap", PlacesEdgesTest::sumWraps);
        test("15: an EMPTY place 0", PlacesEdgesTest::sumOfEmpty);
        test("15: a ROW without places, and a full one", PlacesEdgesTest::sumOfNoneAndAll);
        test("15: 0 with a FAULT: NULL (told by fault())",
            () -> faultedIn(Scene::full, "sum(0)", x -> x.sum(0), 0, NULL));
        test("15: 0 with a FAULT: KIND (told by fault())",
            () -> faultedIn(PlacesEdgesTest::withANullFault, "sum(1)", x -> x.sum(1), 0, KIND));
        test("15: 0 if there is no such DRAWER", PlacesEdgesTest::sumUnknown);
    }

    private static SeedDrawers withANullFault() {
        SeedDrawers x = Scene.full();
        x.take(0, 0);
        return x;
    }

    private static void sumIs(int kind, long sum, long... values) {
        SeedDrawers x = new SeedDrawers();
        Scene.fill(x, 0, kind, values);
        due("sum(0) of kind " + kind, x.sum(0), sum);
        due("faults(0)", x.faults(0), 0);
    }

    private static void sumOfEveryKind() {
        sumIs(GRAINS, 254, 127, 127);
        sumIs(GRAINS, -384, -128, -128, -128);
        sumIs(PODS, 65534, 32767, 32767);
        sumIs(PODS, -65536, -32768, -32768);
        sumIs(MARKS, 131070, 65535, 65535);
        sumIs(COUNTS, 6, -1, 2, 5);
        sumIs(DATES, 6, -1, 2, 5);
        sumIs(TICKS, 2, 1, 0, 1);
        SeedDrawers x = new SeedDrawers();
        Scene.cards(x, 0, "cccc");
        due("sum(0) of cards", x.sum(0), 10);
    }

    private static void sumBeyondInts() {
        sumIs(COUNTS, 4294967294L, HIGHEST, HIGHEST);
        sumIs(COUNTS, -4294967296L, LOWEST, LOWEST);
        sumIs(DATES, 1L << 40, 1L << 39, 1L << 39);
    }

    private static void sumWraps() {
        sumIs(DATES, Long.MAX_VALUE, Long.MAX_VALUE, 0);
        sumIs(DATES, Long.MIN_VALUE, Long.MAX_VALUE, 1);
        sumIs(DATES, Long.MAX_VALUE, Long.MIN_VALUE, -1);
        sumIs(DATES, -2, Long.MAX_VALUE, Long.MAX_VALUE);
        sumIs(DATES, 0, Long.MIN_VALUE, Long.MIN_VALUE);
        sumIs(DATES, Long.MAX_VALUE, Long.MAX_VALUE, 1, -1);
    }

    private static void sumOfEmpty() {
        changesNothing("sum(4)", x -> x.sum(4), 3);
        SeedDrawers x = new SeedDrawers();
        Scene.cards(x, 0, "---");
        due("sum(0) of EMPTY places", x.sum(0), 0);
        Scene.cards(x, 0, "-cc--");
        due("sum(0)", x.sum(0), 3);
        due("faults(0)", x.faults(0), 0);
    }

    private static void sumOfNoneAndAll() {
        for (int kind = 0; kind <= 6; kind++) {
            SeedDrawers x = new SeedDrawers();
            x.row(0, kind, 0);
            due("sum(0) of no places", x.sum(0), 0);
            due("faults(0)", x.faults(0), 0);
        }
        changesNothing("sum(6)", x -> x.sum(6), 0);
        sumIs(COUNTS, 1 << 11, 1 << 11);
        sumIs(COUNTS, (1 << 12) - 1, 1, 2, 4, 8, 16, 32, 64, 128, 256, 512, 1024, 2048);
    }

    private static void sumUnknown() {
        for (int d : NO_DRAWERS) {
            changesNothing("sum(" + d + ")", x -> x.sum(d), 0);
        }
        SeedDrawers x = new SeedDrawers();
        Scene.fill(x, 0, COUNTS, 4);
        Scene.fill(x, 7, COUNTS, 5);
        due("sum(0)", x.sum(0), 4);
        due("sum(7)", x.sum(7), 5);
    }

    private static void find() {
        test("16: The first place", PlacesEdgesTest::findFirst);
        test("16: just what THE HAND has: of this KIND", PlacesEdgesTest::findOfThisKind);
        test("16: just what THE HAND has: of this VALUE", PlacesEdgesTest::findOfThisValue);
        test("16: a CARD of this number", PlacesEdgesTest::findCard);
        test("16: or EMPTY, if it has nothing", PlacesEdgesTest::findEmpty);
        test("16: EMPTY is no 0, and 0 is not EMPTY", PlacesEdgesTest::findNoZeroForEmpty);
        test("16: NONE", PlacesEdgesTest::findNone);
        test("16: UNKNOWN", PlacesEdgesTest::findUnknown);
        test("16: FAULTS: NULL", () -> faultsOfFinding(0, NULL));
        test("16: FAULTS: KIND", () -> faultsOfFinding(1, KIND));
    }

    private static void faultsOfFinding(int drawer, int fault) {
        faulted("find(" + drawer + ")", x -> x.find(drawer), fault);
        faultedIn(Scene::fullWithEmptyHand, "find(" + drawer + ")", x -> x.find(drawer), -10 - fault, fault);
    }

    private static void findFirst() {
        SeedDrawers x = new SeedDrawers();
        Scene.fill(x, 0, COUNTS, 4, 9, 4, 9, 9, 8, 8, 8, 8, 8, 8, 7);
        x.think(COUNTS, 4);
        due("find(0) of the first place", x.find(0), 0);
        x.think(COUNTS, 9);
        due("find(0) of several", x.find(0), 1);
        x.think(COUNTS, 7);
        due("find(0) of the last of twelve places", x.find(0), 11);
        handIs(x, COUNTS, 7);
    }

    private static void findOfThisKind() {
        for (int rowKind = 0; rowKind <= 5; rowKind++) {
            SeedDrawers x = new SeedDrawers();
            Scene.fill(x, 0, rowKind, 0, 1);
            for (int kind = 0; kind <= 5; kind++) {
                x.think(kind, 1);
                due("find(0) of kind " + kind + " among " + rowKind, x.find(0), kind == rowKind ? 1 : NONE);
            }
            x.card();
            due("find(0) of a card among " + rowKind, x.find(0), NONE);
        }
        SeedDrawers x = new SeedDrawers();
        Scene.cards(x, 0, "c");
        for (int kind = 0; kind <= 5; kind++) {
            x.think(kind, 1);
            due("find(0) of kind " + kind + " among cards", x.find(0), NONE);
        }
    }

    private static void findOfThisValue() {
        SeedDrawers x = new SeedDrawers();
        Scene.fill(x, 0, DATES, (1L << 32) + 5, 5, Long.MIN_VALUE);
        x.think(DATES, 5);
        due("find(0) of 5", x.find(0), 1);
        x.think(DATES, (1L << 32) + 5);
        due("find(0) of 2^32 + 5", x.find(0), 0);
        x.think(DATES, 0);
        due("find(0) of 0", x.find(0), NONE);
        x.think(DATES, Long.MIN_VALUE);
        due("find(0) of the lowest", x.find(0), 2);
        Scene.fill(x, 1, TICKS, 1, 0);
        x.think(TICKS, 0);
        due("find(1) of no", x.find(1), 1);
        Scene.fill(x, 2, MARKS, 255, 65535);
        x.think(MARKS, -1);
        due("find(2) of the highest mark", x.find(2), 1);
    }

    private static void findCard() {
        SeedDrawers x = Scene.full();
        x.take(4, 2);
        due("find(4)", x.find(4), 2);
        x.take(4, 0);
        due("find(4)", x.find(4), 0);
        handIs(x, CARDS, 1);
        x.card();
        due("find(4) of a card that is not there", x.find(4), NONE);
    }

    private static void findEmpty() {
        changesNothingIn(Scene::fullWithEmptyHand, "find(4)", x -> x.find(4), 1);
        SeedDrawers x = new SeedDrawers();
        Scene.cards(x, 0, "--");
        due("find(0) of several", x.find(0), 0);
        Scene.cards(x, 0, "cccccccccccc");
        due("find(0) in a full row", x.find(0), NONE);
        Scene.cards(x, 0, "ccccccccccc-");
        due("find(0) of the last of twelve places", x.find(0), 11);
    }

    private static void findNoZeroForEmpty() {
        for (int kind = 0; kind <= 5; kind++) {
            SeedDrawers x = new SeedDrawers();
            x.row(0, kind, 2);
            due("find(0) with nothing in the hand among kind " + kind, x.find(0), NONE);
            x.row(1, CARDS, 2);
            x.think(kind, 0);
            due("find(1) of 0 of kind " + kind + " among EMPTY places", x.find(1), NONE);
        }
    }

    private static void findNone() {
        changesNothing("find(2) of a mark", x -> x.find(2), NONE);
        changesNothingIn(Scene::fullWithEmptyHand, "find(6) in no places", x -> x.find(6), NONE);
        SeedDrawers x = new SeedDrawers();
        x.row(0, CARDS, 0);
        due("find(0) of EMPTY in no places", x.find(0), NONE);
        Scene.fill(x, 0, COUNTS, 5, 6, 7, 8, 9, 9);
        x.row(0, COUNTS, 2);
        x.think(COUNTS, 9);
        due("find(0) of what a longer row had there", x.find(0), NONE);
        due("faults(0)", x.faults(0), 0);
    }

    private static void findUnknown() {
        for (int d : NO_DRAWERS) {
            changesNothing("find(" + d + ")", x -> x.find(d), UNKNOWN);
            changesNothingIn(Scene::fullWithEmptyHand, "find(" + d + ")", x -> x.find(d), UNKNOWN);
        }
        SeedDrawers x = new SeedDrawers();
        Scene.fill(x, 0, COUNTS, 1, 3);
        Scene.fill(x, 7, COUNTS, 3);
        x.think(COUNTS, 3);
        due("find(0)", x.find(0), 1);
        due("find(7)", x.find(7), 0);
    }
}
