/** The boundary sentences of promises 1 to 8: a new object, row, note, share, clear, think, card, drop. */
public final class KeepingEdgesTest extends Edges {
    public static void main(String[] args) {
        newObject();
        row();
        note();
        share();
        clear();
        think();
        card();
        drop();
        end();
    }

    private static void newObject() {
        test("1: All DRAWERS have NOTHING", KeepingEdgesTest::allHaveNothing);
        test("1: THE HAND has nothing", KeepingEdgesTest::newHandHasNothing);
        test("1: no CARDS", KeepingEdgesTest::newHasNoCards);
        test("1: no ORDERS", KeepingEdgesTest::newHasNoOrders);
        test("1: no FAULTS yet, no run() yet", KeepingEdgesTest::newHasMetNothing);
        test("1: a new object has nothing of another one", KeepingEdgesTest::newHasNothingOfAnother);
    }

    private static void allHaveNothing() {
        SeedDrawers x = new SeedDrawers();
        for (int d = 0; d < 8; d++) {
            due("told(" + d + ", 0)", x.told(d, 0), 0);
            due("told(" + d + ", 1)", x.told(d, 1), 0);
            due("told(" + d + ", 2)", x.told(d, 2), 0);
            due("clear(" + d + ")", x.clear(d), 0);
            due("size(" + d + ")", x.size(d), -10 - NULL);
        }
    }

    private static void newHandHasNothing() {
        SeedDrawers x = new SeedDrawers();
        handIs(x, NONE, 0);
        due("lay(0, 0)", x.lay(0, 0), STATE);
        due("drop()", x.drop(), NONE);
    }

    private static void newHasNoCards() {
        SeedDrawers x = new SeedDrawers();
        due("card()", x.card(), 1);
    }

    private static void newHasNoOrders() {
        SeedDrawers x = new SeedDrawers();
        due("run()", x.run(), 0);
        due("order(0, 0, 0, 0, 0)", x.order(0, 0, 0, 0, 0), 1);
    }

    private static void newHasMetNothing() {
        SeedDrawers x = new SeedDrawers();
        due("fault()", x.fault(), 0);
        for (int of = 0; of <= 4; of++) {
            due("faults(" + of + ")", x.faults(of), 0);
        }
        for (int k = -1; k <= 8; k++) {
            due("met(" + k + ")", x.met(k), NONE);
        }
    }

    private static void newHasNothingOfAnother() {
        SeedDrawers used = Scene.full();
        SeedDrawers x = new SeedDrawers();
        for (int d = 0; d < 8; d++) {
            due("told(" + d + ", 0)", x.told(d, 0), 0);
        }
        handIs(x, NONE, 0);
        due("faults(0)", x.faults(0), 0);
        due("fault()", x.fault(), 0);
        due("met(0)", x.met(0), NONE);
        due("run()", x.run(), 0);
        due("card()", x.card(), 1);
        due("the next card() of the other object", used.card(), 3);
    }

    private static void row() {
        test("2: of n places: n", KeepingEdgesTest::rowOfEverySize);
        test("2: a new ROW of a KIND", KeepingEdgesTest::rowOfEveryKind);
        test("2: a new ROW in place of NOTHING, a NOTE, a ROW", KeepingEdgesTest::rowInPlace);
        test("2: a new ROW in place of one that others have", KeepingEdgesTest::rowInPlaceOfSame);
        test("2: a new ROW where all DRAWERS have one", KeepingEdgesTest::rowWhereAllHaveOne);
        test("2: UNKNOWN", KeepingEdgesTest::rowUnknown);
        test("2: OUTSIDE: KIND", KeepingEdgesTest::rowOfNoKind);
        test("2: OUTSIDE: n is not 0 .. 12", KeepingEdgesTest::rowOfNoSize);
        test("2: UNKNOWN ahead of OUTSIDE", KeepingEdgesTest::rowUnknownFirst);
    }

    private static void rowOfEverySize() {
        for (int n = 0; n <= 12; n++) {
            SeedDrawers x = new SeedDrawers();
            due("row(0, 3, " + n + ")", x.row(0, COUNTS, n), n);
            due("size(0)", x.size(0), n);
            due("told(0, 0)", x.told(0, 0), 2 + COUNTS);
            for (int i = 0; i < n; i++) {
                due("take(0, " + i + ")", x.take(0, i), COUNTS);
            }
            due("take(0, " + n + ")", x.take(0, n), -10 - INDEX);
        }
    }

    private static void rowOfEveryKind() {
        for (int kind = 0; kind <= 6; kind++) {
            SeedDrawers x = new SeedDrawers();
            due("row(0, " + kind + ", 12)", x.row(0, kind, 12), 12);
            due("told(0, 0)", x.told(0, 0), 2 + kind);
            due("row(7, " + kind + ", 0)", x.row(7, kind, 0), 0);
            due("told(7, 0)", x.told(7, 0), 2 + kind);
        }
    }

    private static void rowInPlace() {
        SeedDrawers x = Scene.full();
        due("row(0, 5, 1)", x.row(0, TICKS, 1), 1);
        rowIs(x, 0, "0");
        due("row(1, 1, 2)", x.row(1, PODS, 2), 2);
        rowIs(x, 1, "0 0");
        due("told(1, 2)", x.told(1, 2), 0);
        due("row(4, 6, 4)", x.row(4, CARDS, 4), 4);
        rowIs(x, 4, "- - - -");
        due("row(7, 4, 12)", x.row(7, DATES, 12), 12);
        rowIs(x, 7, "0 0 0 0 0 0 0 0 0 0 0 0");
    }

    private static void rowInPlaceOfSame() {
        SeedDrawers x = Scene.full();
        due("row(2, 3, 3)", x.row(2, COUNTS, 3), 3);
        rowIs(x, 2, "0 0 0");
        rowIs(x, 3, "10 20 30");
        due("told(2, 1)", x.told(2, 1), 1);
        due("told(3, 1)", x.told(3, 1), 1);
    }

    private static void rowWhereAllHaveOne() {
        for (int changed = 0; changed < 8; changed++) {
            SeedDrawers x = withEightRows();
            due("row(" + changed + ", 3, 2)", x.row(changed, COUNTS, 2), 2);
            for (int d = 0; d < 8; d++) {
                due("told(" + d + ", 1)", x.told(d, 1), 1);
                rowIs(x, d, d == changed ? "0 0" : (10 + d) + " " + (20 + d));
            }
        }
    }

    private static SeedDrawers withEightRows() {
        SeedDrawers x = new SeedDrawers();
        for (int d = 0; d < 8; d++) {
            Scene.fill(x, d, COUNTS, 10 + d, 20 + d);
        }
        return x;
    }

    private static void rowUnknown() {
        for (int d : NO_DRAWERS) {
            changesNothing("row(" + d + ", 3, 1)", x -> x.row(d, COUNTS, 1), UNKNOWN);
        }
        SeedDrawers x = new SeedDrawers();
        due("row(0, 3, 1)", x.row(0, COUNTS, 1), 1);
        due("row(7, 3, 2)", x.row(7, COUNTS, 2), 2);
    }

    private static void rowOfNoKind() {
        for (int kind : new int[] {-1, 7, LOWEST, HIGHEST}) {
            changesNothing("row(2, " + kind + ", 1)", x -> x.row(2, kind, 1), OUTSIDE);
            changesNothing("row(0, " + kind + ", 0)", x -> x.row(0, kind, 0), OUTSIDE);
        }
        SeedDrawers x = new SeedDrawers();
        due("row(0, 0, 1)", x.row(0, 0, 1), 1);
        due("row(0, 6, 1)", x.row(0, 6, 1), 1);
    }

    private static void rowOfNoSize() {
        for (int n : NOT_TO_12) {
            for (int kind = 0; kind <= 6; kind++) {
                int of = kind;
                changesNothing("row(2, " + kind + ", " + n + ")", x -> x.row(2, of, n), OUTSIDE);
            }
            changesNothing("row(0, 3, " + n + ")", x -> x.row(0, COUNTS, n), OUTSIDE);
        }
        SeedDrawers x = new SeedDrawers();
        due("row(0, 3, 0)", x.row(0, COUNTS, 0), 0);
        due("row(0, 3, 12)", x.row(0, COUNTS, 12), 12);
    }

    private static void rowUnknownFirst() {
        for (int d : NO_DRAWERS) {
            changesNothing("row(" + d + ", 7, 1)", x -> x.row(d, 7, 1), UNKNOWN);
            changesNothing("row(" + d + ", 3, 13)", x -> x.row(d, COUNTS, 13), UNKNOWN);
            changesNothing("row(" + d + ", -1, -1)", x -> x.row(d, -1, -1), UNKNOWN);
        }
    }

    private static void note() {
        test("3: A DRAWER has a NOTE: 1 (an int)", KeepingEdgesTest::noteOfEveryInt);
        test("3: a NOTE in place of NOTHING, a NOTE, a ROW", KeepingEdgesTest::noteInPlace);
        test("3: a NOTE where all DRAWERS have a ROW", KeepingEdgesTest::noteWhereAllHaveARow);
        test("3: UNKNOWN", KeepingEdgesTest::noteUnknown);
    }

    private static void noteOfEveryInt() {
        for (int v : new int[] {LOWEST, -32769, -1, 0, 1, 65536, HIGHEST}) {
            SeedDrawers x = new SeedDrawers();
            due("note(0, " + v + ")", x.note(0, v), 1);
            due("told(0, 0)", x.told(0, 0), 1);
            due("told(0, 2)", x.told(0, 2), v);
        }
    }

    private static void noteInPlace() {
        SeedDrawers x = Scene.full();
        due("note(0, 5)", x.note(0, 5), 1);
        due("told(0, 2)", x.told(0, 2), 5);
        due("note(1, 6)", x.note(1, 6), 1);
        due("told(1, 2)", x.told(1, 2), 6);
        due("note(2, 7)", x.note(2, 7), 1);
        due("told(2, 0)", x.told(2, 0), 1);
        due("told(2, 2)", x.told(2, 2), 7);
        due("told(3, 0)", x.told(3, 0), 2 + COUNTS);
        due("told(3, 1)", x.told(3, 1), 1);
        rowIs(x, 3, "10 20 30");
    }

    private static void noteWhereAllHaveARow() {
        for (int changed = 0; changed < 8; changed++) {
            SeedDrawers x = withEightRows();
            due("note(" + changed + ", 5)", x.note(changed, 5), 1);
            for (int d = 0; d < 8; d++) {
                due("told(" + d + ", 0)", x.told(d, 0), d == changed ? 1 : 2 + COUNTS);
                due("told(" + d + ", 2)", x.told(d, 2), d == changed ? 5 : 0);
                due("sum(" + d + ")", x.sum(d), d == changed ? 0 : 30 + 2 * d);
            }
        }
    }

    private static void noteUnknown() {
        for (int d : NO_DRAWERS) {
            changesNothing("note(" + d + ", 5)", x -> x.note(d, 5), UNKNOWN);
        }
        SeedDrawers x = new SeedDrawers();
        due("note(0, 5)", x.note(0, 5), 1);
        due("note(7, 6)", x.note(7, 6), 1);
    }

    private static void share() {
        test("4: a ROW: the same one", KeepingEdgesTest::shareRow);
        test("4: the same one in all DRAWERS", KeepingEdgesTest::shareWithAll);
        test("4: a ROW without places is the same one, too", KeepingEdgesTest::shareRowWithoutPlaces);
        test("4: A DRAWER has what another one has: a NOTE", KeepingEdgesTest::shareNote);
        test("4: A DRAWER has what another one has: NOTHING", KeepingEdgesTest::shareNothing);
        test("4: a DRAWER with itself", KeepingEdgesTest::shareWithItself);
        test("4: what the other one has later is its own", KeepingEdgesTest::shareIsOfNow);
        test("4: UNKNOWN (either)", KeepingEdgesTest::shareUnknown);
    }

    private static void shareRow() {
        SeedDrawers x = Scene.full();
        due("share(5, 7)", x.share(5, 7), 1);
        due("told(5, 1)", x.told(5, 1), 2);
        x.think(DATES, 8);
        due("lay(5, 11)", x.lay(5, 11), 1);
        due("take(7, 11)", x.take(7, 11), DATES);
        due("value()", x.value(), 8);
        x.think(DATES, 9);
        due("lay(7, 1)", x.lay(7, 1), 1);
        due("take(5, 1)", x.take(5, 1), DATES);
        due("value()", x.value(), 9);
    }

    private static void shareWithAll() {
        SeedDrawers x = new SeedDrawers();
        Scene.fill(x, 7, COUNTS, 1, 2);
        for (int d = 0; d < 7; d++) {
            due("share(" + d + ", 7)", x.share(d, 7), 1);
        }
        x.think(COUNTS, 5);
        x.lay(0, 1);
        for (int d = 0; d < 8; d++) {
            due("told(" + d + ", 1)", x.told(d, 1), 8);
            rowIs(x, d, "1 5");
        }
    }

    private static void shareRowWithoutPlaces() {
        SeedDrawers x = Scene.full();
        due("share(0, 6)", x.share(0, 6), 1);
        due("told(0, 0)", x.told(0, 0), 2 + PODS);
        due("told(0, 1)", x.told(0, 1), 2);
        due("size(0)", x.size(0), 0);
    }

    private static void shareNote() {
        SeedDrawers x = Scene.full();
        due("share(3, 1)", x.share(3, 1), 1);
        due("told(3, 0)", x.told(3, 0), 1);
        due("told(3, 1)", x.told(3, 1), 0);
        due("told(3, 2)", x.told(3, 2), 77);
        due("told(1, 2)", x.told(1, 2), 77);
        due("told(2, 1)", x.told(2, 1), 1);
    }

    private static void shareNothing() {
        SeedDrawers x = Scene.full();
        due("share(3, 0)", x.share(3, 0), 1);
        due("told(3, 0)", x.told(3, 0), 0);
        due("told(2, 1)", x.told(2, 1), 1);
        due("share(1, 0)", x.share(1, 0), 1);
        due("told(1, 0)", x.told(1, 0), 0);
        due("told(1, 2)", x.told(1, 2), 0);
        due("share of NOTHING with NOTHING", x.share(1, 0), 1);
        x.row(1, COUNTS, 1);
        due("told(0, 0)", x.told(0, 0), 0);
    }

    private static void shareWithItself() {
        for (int d = 0; d < 8; d++) {
            int itself = d;
            changesNothing("share(" + d + ", " + d + ")", x -> x.share(itself, itself), 1);
        }
    }

    private static void shareIsOfNow() {
        SeedDrawers x = Scene.full();
        x.share(0, 1);
        x.note(1, 78);
        due("told(0, 2)", x.told(0, 2), 77);
        x.share(0, 2);
        x.row(2, TICKS, 1);
        due("told(0, 0)", x.told(0, 0), 2 + COUNTS);
        rowIs(x, 0, "10 20 30");
        x.share(0, 4);
        x.clear(4);
        rowIs(x, 0, "1 - 2");
    }

    private static void shareUnknown() {
        for (int d : NO_DRAWERS) {
            for (int other : new int[] {0, 2, 7}) {
                changesNothing("share(" + d + ", " + other + ")", x -> x.share(d, other), UNKNOWN);
                changesNothing("share(" + other + ", " + d + ")", x -> x.share(other, d), UNKNOWN);
            }
            changesNothing("share(" + d + ", " + d + ")", x -> x.share(d, d), UNKNOWN);
        }
        SeedDrawers x = new SeedDrawers();
        due("share(0, 7)", x.share(0, 7), 1);
        due("share(7, 0)", x.share(7, 0), 1);
    }

    private static void clear() {
        test("5: A DRAWER has NOTHING", KeepingEdgesTest::clearLeavesNothing);
        test("5: 1, if it had a NOTE", KeepingEdgesTest::clearNote);
        test("5: 1, if it had a ROW", KeepingEdgesTest::clearRow);
        test("5: 0, if it had NOTHING", KeepingEdgesTest::clearNothing);
        test("5: the others have the same ROW still", KeepingEdgesTest::clearOneOfSame);
        test("5: UNKNOWN", KeepingEdgesTest::clearUnknown);
    }

    private static void clearLeavesNothing() {
        SeedDrawers x = Scene.full();
        for (int d = 0; d < 8; d++) {
            x.clear(d);
            due("told(" + d + ", 0)", x.told(d, 0), 0);
            due("told(" + d + ", 1)", x.told(d, 1), 0);
            due("told(" + d + ", 2)", x.told(d, 2), 0);
            due("take(" + d + ", 0)", x.take(d, 0), -10 - NULL);
        }
    }

    private static void clearNote() {
        for (int v : new int[] {0, 77, LOWEST}) {
            SeedDrawers x = new SeedDrawers();
            x.note(0, v);
            due("clear(0) of the note " + v, x.clear(0), 1);
            due("clear(0) again", x.clear(0), 0);
        }
    }

    private static void clearRow() {
        for (int kind = 0; kind <= 6; kind++) {
            for (int n : new int[] {0, 1, 12}) {
                SeedDrawers x = new SeedDrawers();
                x.row(0, kind, n);
                due("clear(0) of " + n + " places of kind " + kind, x.clear(0), 1);
                due("clear(0) again", x.clear(0), 0);
            }
        }
    }

    private static void clearNothing() {
        changesNothing("clear(0)", x -> x.clear(0), 0);
        SeedDrawers x = Scene.full();
        x.share(4, 0);
        due("clear(4) that has what 0 has", x.clear(4), 0);
    }

    private static void clearOneOfSame() {
        SeedDrawers x = Scene.full();
        due("clear(2)", x.clear(2), 1);
        due("told(2, 0)", x.told(2, 0), 0);
        due("told(3, 1)", x.told(3, 1), 1);
        rowIs(x, 3, "10 20 30");
        x.share(0, 1);
        due("clear(1)", x.clear(1), 1);
        due("told(0, 2)", x.told(0, 2), 77);
    }

    private static void clearUnknown() {
        for (int d : NO_DRAWERS) {
            changesNothing("clear(" + d + ")", x -> x.clear(d), UNKNOWN);
        }
        SeedDrawers x = new SeedDrawers();
        due("clear(0)", x.clear(0), 0);
        due("clear(7)", x.clear(7), 0);
    }

    private static void think() {
        test("6: of GRAINS its lowest 8 bits, with sign", KeepingEdgesTest::thinkGrains);
        test("6: of PODS its lowest 16 bits, with sign", KeepingEdgesTest::thinkPods);
        test("6: of MARKS its lowest 16", KeepingEdgesTest::thinkMarks);
        test("6: of COUNTS its lowest 32 bits, with sign", KeepingEdgesTest::thinkCounts);
        test("6: of DATES v", KeepingEdgesTest::thinkDates);
        test("6: of TICKS whether it is not 0", KeepingEdgesTest::thinkTicks);
        test("6: THE HAND has a THING, whatever it had", KeepingEdgesTest::thinkInPlace);
        test("6: OUTSIDE: KIND", KeepingEdgesTest::thinkOfNoKind);
    }

    private static void thinks(int kind, long v, long value) {
        SeedDrawers x = new SeedDrawers();
        due("think(" + kind + ", " + v + ")", x.think(kind, v), 1);
        due("hand() behind think(" + kind + ", " + v + ")", x.hand(), kind);
        due("value() behind think(" + kind + ", " + v + ")", x.value(), value);
    }

    private static void thinkGrains() {
        long[][] cases = {{0, 0}, {1, 1}, {-1, -1}, {127, 127}, {128, -128}, {-128, -128}, {-129, 127}, {255, -1},
            {256, 0}, {32640, -128}, {0x1_0000_007FL, 127}, {Long.MAX_VALUE, -1}, {Long.MIN_VALUE, 0}};
        for (long[] c : cases) {
            thinks(GRAINS, c[0], c[1]);
        }
    }

    private static void thinkPods() {
        long[][] cases = {{0, 0}, {-1, -1}, {128, 128}, {-129, -129}, {32767, 32767}, {32768, -32768},
            {-32768, -32768}, {-32769, 32767}, {65535, -1}, {65536, 0}, {0x1_0000_7FFFL, 32767},
            {Long.MAX_VALUE, -1}, {Long.MIN_VALUE, 0}};
        for (long[] c : cases) {
            thinks(PODS, c[0], c[1]);
        }
    }

    private static void thinkMarks() {
        long[][] cases = {{0, 0}, {255, 255}, {256, 256}, {32767, 32767}, {32768, 32768}, {65535, 65535}, {65536, 0},
            {-1, 65535}, {-32768, 32768}, {-65536, 0}, {0x1_0000_8000L, 32768}, {Long.MAX_VALUE, 65535},
            {Long.MIN_VALUE, 0}};
        for (long[] c : cases) {
            thinks(MARKS, c[0], c[1]);
        }
    }

    private static void thinkCounts() {
        long[][] cases = {{0, 0}, {-1, -1}, {65536, 65536}, {-65537, -65537}, {HIGHEST, HIGHEST},
            {1L + HIGHEST, LOWEST}, {LOWEST, LOWEST}, {LOWEST - 1L, HIGHEST}, {0xFFFF_FFFFL, -1}, {1L << 32, 0},
            {Long.MAX_VALUE, -1}, {Long.MIN_VALUE, 0}};
        for (long[] c : cases) {
            thinks(COUNTS, c[0], c[1]);
        }
    }

    private static void thinkDates() {
        for (long v : new long[] {0, 1, -1, 1L + HIGHEST, LOWEST - 1L, 1L << 32, Long.MAX_VALUE, Long.MIN_VALUE}) {
            thinks(DATES, v, v);
        }
    }

    private static void thinkTicks() {
        thinks(TICKS, 0, 0);
        for (long v : new long[] {1, 2, -1, 256, 65536, 1L << 32, Long.MAX_VALUE, Long.MIN_VALUE}) {
            thinks(TICKS, v, 1);
        }
    }

    private static void thinkInPlace() {
        SeedDrawers x = Scene.fullWithCardInHand();
        due("think(4, -6)", x.think(DATES, -6), 1);
        handIs(x, DATES, -6);
        due("think(0, 3)", x.think(GRAINS, 3), 1);
        handIs(x, GRAINS, 3);
        rowIs(x, 4, "1 - 2");
    }

    private static void thinkOfNoKind() {
        for (int kind : new int[] {-1, 6, 7, NONE, LOWEST, HIGHEST}) {
            String call = "think(" + kind + ", 5)";
            changesNothing(call, x -> x.think(kind, 5), OUTSIDE);
            changesNothingIn(Scene::fullWithEmptyHand, call, x -> x.think(kind, 5), OUTSIDE);
            changesNothingIn(Scene::fullWithCardInHand, call, x -> x.think(kind, 5), OUTSIDE);
        }
        thinks(GRAINS, 5, 5);
        thinks(TICKS, 5, 1);
    }

    private static void card() {
        test("7: numbered 1, 2, ..: its number", KeepingEdgesTest::cardNumbers);
        test("7: THE HAND has a new CARD, whatever it had", KeepingEdgesTest::cardInPlace);
        test("7: a new CARD is in no ROW yet", KeepingEdgesTest::cardIsNew);
        test("7: STATE: there are 30", KeepingEdgesTest::cardBeyond30);
        test("7: there are 30, wherever they are", KeepingEdgesTest::cardsDoNotEnd);
    }

    private static SeedDrawers withCards(int cards) {
        SeedDrawers x = Scene.full();
        // Two cards are written in a full scene.
        for (int k = 3; k <= cards; k++) {
            x.card();
        }
        return x;
    }

    private static SeedDrawers with30Cards() {
        return withCards(30);
    }

    private static SeedDrawers with30CardsAndAThing() {
        SeedDrawers x = withCards(30);
        x.think(PODS, -4);
        return x;
    }

    private static SeedDrawers with30CardsAndAnEmptyHand() {
        SeedDrawers x = withCards(30);
        x.drop();
        return x;
    }

    private static void cardNumbers() {
        SeedDrawers x = new SeedDrawers();
        for (int k = 1; k <= 30; k++) {
            due("card()", x.card(), k);
            handIs(x, CARDS, k);
        }
    }

    private static void cardInPlace() {
        SeedDrawers x = Scene.full();
        due("card() with a mark in the hand", x.card(), 3);
        handIs(x, CARDS, 3);
        due("card() with a card in the hand", x.card(), 4);
        handIs(x, CARDS, 4);
        x.drop();
        due("card() with nothing in the hand", x.card(), 5);
        handIs(x, CARDS, 5);
    }

    private static void cardIsNew() {
        SeedDrawers x = Scene.full();
        x.card();
        due("find(4)", x.find(4), NONE);
        rowIs(x, 4, "1 - 2");
    }

    private static void cardBeyond30() {
        SeedDrawers x = withCards(29);
        due("the 30th card()", x.card(), 30);
        due("the 31st card()", x.card(), STATE);
        handIs(x, CARDS, 30);
        due("the 32nd card()", x.card(), STATE);
        changesNothingIn(KeepingEdgesTest::with30Cards, "card()", y -> y.card(), STATE);
        changesNothingIn(KeepingEdgesTest::with30CardsAndAThing, "card()", y -> y.card(), STATE);
        changesNothingIn(KeepingEdgesTest::with30CardsAndAnEmptyHand, "card()", y -> y.card(), STATE);
    }

    private static void cardsDoNotEnd() {
        SeedDrawers x = with30CardsAndAnEmptyHand();
        for (int d = 0; d < 8; d++) {
            x.clear(d);
        }
        x.run();
        due("card() with no card in the hand or a drawer", x.card(), STATE);
    }

    private static void drop() {
        test("8: the KIND that it had", KeepingEdgesTest::dropOfEveryKind);
        test("8: THE HAND has nothing", KeepingEdgesTest::dropLeavesNothing);
        test("8: NONE", KeepingEdgesTest::dropOfNothing);
        test("8: what was laid or taken stays at its place", KeepingEdgesTest::dropLeavesRows);
    }

    private static void dropOfEveryKind() {
        for (int kind = 0; kind <= 5; kind++) {
            for (long v : new long[] {0, 1, -1}) {
                SeedDrawers x = new SeedDrawers();
                x.think(kind, v);
                due("drop() of kind " + kind + ", " + v, x.drop(), kind);
            }
        }
        SeedDrawers x = new SeedDrawers();
        x.card();
        due("drop() of a card", x.drop(), CARDS);
    }

    private static void dropLeavesNothing() {
        SeedDrawers x = Scene.full();
        x.drop();
        handIs(x, NONE, 0);
        due("lay(2, 0)", x.lay(2, 0), STATE);
        due("find(4)", x.find(4), 1);
        x.card();
        x.drop();
        handIs(x, NONE, 0);
        due("find(4)", x.find(4), 1);
    }

    private static void dropOfNothing() {
        changesNothingIn(Scene::fullWithEmptyHand, "drop()", x -> x.drop(), NONE);
        SeedDrawers x = new SeedDrawers();
        x.think(GRAINS, 0);
        due("drop()", x.drop(), GRAINS);
        due("drop() again", x.drop(), NONE);
        x.row(0, CARDS, 1);
        x.think(GRAINS, 0);
        x.take(0, 0);
        due("drop() of what comes from an EMPTY place", x.drop(), NONE);
    }

    private static void dropLeavesRows() {
        SeedDrawers x = Scene.fullWithCardInHand();
        x.drop();
        rowIs(x, 4, "1 - 2");
        x.think(COUNTS, 4);
        x.lay(2, 0);
        x.drop();
        rowIs(x, 2, "4 20 30");
    }
}
