import java.util.function.ToLongFunction;

/** The boundary sentences under 'Terms': drawers, rows, things, what fits, to come and to lay, what is refused. */
public final class TermsEdgesTest extends Edges {
    private static final long[] LOW = {-128, -32768, 0, LOWEST, Long.MIN_VALUE, 0};
    private static final long[] HIGH = {127, 32767, 65535, HIGHEST, Long.MAX_VALUE, 1};
    private static final String[] NAMES = {"a GRAIN", "a POD", "a MARK", "a COUNT", "a DATE", "a TICK", "a CARD"};
    /** For each kind of a thing the kinds of the rows that it fits. */
    private static final int[][] FITTING = {
        {GRAINS, PODS, COUNTS, DATES}, {PODS, COUNTS, DATES}, {MARKS, COUNTS, DATES}, {COUNTS, DATES}, {DATES},
        {TICKS}, {CARDS}};

    public static void main(String[] args) {
        drawersAndRows();
        things();
        fits();
        nothingFits();
        toComeAndToLay();
        answers();
        end();
    }

    private static void drawersAndRows() {
        test("Terms: DRAWERS 0 .. 7 each have their own", TermsEdgesTest::eightDrawers);
        test("Terms: a ROW of 0 to 12 places", TermsEdgesTest::rowsOf0And12);
        test("Terms: All places of a new ROW are 0", TermsEdgesTest::newRowsAre0);
        test("Terms: (a TICK: no)", TermsEdgesTest::newTicksAreNo);
        test("Terms: of CARDS each is EMPTY", TermsEdgesTest::newCardsAreEmpty);
        test("Terms: Several DRAWERS may have the same ROW", TermsEdgesTest::someHaveTheSame);
        test("Terms: rows come and go for 512 calls", TermsEdgesTest::rowsComeAndGo);
    }

    private static void eightDrawers() {
        SeedDrawers x = new SeedDrawers();
        for (int d = 0; d < 8; d++) {
            Scene.fill(x, d, COUNTS, 10 + d, 20 + d);
        }
        for (int d = 0; d < 8; d++) {
            rowIs(x, d, (10 + d) + " " + (20 + d));
        }
        for (int d = 0; d < 8; d++) {
            x.note(d, 30 + d);
        }
        for (int d = 0; d < 8; d++) {
            due("told(" + d + ", 2)", x.told(d, 2), 30 + d);
        }
    }

    private static void rowsOf0And12() {
        for (int kind = 0; kind <= 6; kind++) {
            SeedDrawers x = new SeedDrawers();
            due("row(0, " + kind + ", 0)", x.row(0, kind, 0), 0);
            due("size(0)", x.size(0), 0);
            due("take(0, 0)", x.take(0, 0), -13);
            due("row(1, " + kind + ", 12)", x.row(1, kind, 12), 12);
            due("size(1)", x.size(1), 12);
            due("take(1, 11)", x.take(1, 11), kind == CARDS ? NONE : kind);
            due("take(1, 12)", x.take(1, 12), -13);
        }
    }

    /** A row of this kind where one of dates was, of which no place is 0. */
    private static SeedDrawers newRowWhereDatesWere(int kind) {
        SeedDrawers x = new SeedDrawers();
        for (int d = 0; d < 8; d++) {
            Scene.fill(x, d, DATES, -1, -1, -1, -1, -1, -1, -1, -1, -1, -1, -1, -1);
        }
        x.row(3, kind, 12);
        return x;
    }

    private static void newRowsAre0() {
        for (int kind = GRAINS; kind <= DATES; kind++) {
            rowIs(newRowWhereDatesWere(kind), 3, "0 0 0 0 0 0 0 0 0 0 0 0");
            SeedDrawers x = new SeedDrawers();
            x.row(3, kind, 12);
            rowIs(x, 3, "0 0 0 0 0 0 0 0 0 0 0 0");
        }
    }

    private static void newTicksAreNo() {
        SeedDrawers x = newRowWhereDatesWere(TICKS);
        x.think(TICKS, 1);
        due("find(3) of yes", x.find(3), NONE);
        x.think(TICKS, 0);
        due("find(3) of no", x.find(3), 0);
        rowIs(x, 3, "0 0 0 0 0 0 0 0 0 0 0 0");
    }

    private static void newCardsAreEmpty() {
        SeedDrawers x = newRowWhereDatesWere(CARDS);
        rowIs(x, 3, "- - - - - - - - - - - -");
        due("find(3)", x.find(3), 0);
        due("sum(3)", x.sum(3), 0);
        Scene.cards(x, 3, "cccccccccccc");
        x.row(3, CARDS, 12);
        rowIs(x, 3, "- - - - - - - - - - - -");
    }

    private static void someHaveTheSame() {
        SeedDrawers x = Scene.full();
        x.share(0, 3);
        due("told(0, 1)", x.told(0, 1), 3);
        x.think(COUNTS, 5);
        x.lay(0, 2);
        rowIs(x, 2, "10 20 5");
        rowIs(x, 3, "10 20 5");
        x.share(5, 4);
        due("told(5, 1): two rows that several have", x.told(5, 1), 2);
        due("told(0, 1)", x.told(0, 1), 3);
        rowIs(x, 5, "1 - 2");
    }

    private static void rowsComeAndGo() {
        SeedDrawers x = new SeedDrawers();
        // 8 + 5 + 98 * 5 + 9 calls: the last one that is looked at is the 512th.
        for (int d = 0; d < 8; d++) {
            x.row(d, COUNTS, 1);
        }
        x.think(COUNTS, 77);
        x.lay(7, 0);
        x.share(6, 7);
        x.clear(7);
        x.drop();
        for (int k = 0; k < 98; k++) {
            int d = k % 6;
            x.row(d, DATES, 3);
            x.think(DATES, k);
            due("lay(" + d + ", 2)", x.lay(d, 2), 1);
            x.share(7, d);
            due("sum(7)", x.sum(7), k);
        }
        for (int d = 0; d < 6; d++) {
            due("sum(" + d + ")", x.sum(d), d < 2 ? 96 + d : 90 + d);
        }
        due("sum(6)", x.sum(6), 77);
        due("told(6, 1)", x.told(6, 1), 1);
        due("told(7, 1), the 512th call", x.told(7, 1), 2);
    }

    private static void things() {
        test("Terms: a whole number of that KIND", TermsEdgesTest::valuesOfEveryKind);
        test("Terms: a MARK its code, a TICK 1 or 0", TermsEdgesTest::marksAndTicks);
        test("Terms: CARDS are numbered 1, 2, .., 30 at most", TermsEdgesTest::thirtyCards);
        test("Terms: THE HAND has a THING or nothing (at first)", TermsEdgesTest::handAtFirst);
    }

    private static void valuesOfEveryKind() {
        for (int kind = 0; kind <= 5; kind++) {
            SeedDrawers x = new SeedDrawers();
            x.row(0, kind, 2);
            x.think(kind, LOW[kind]);
            x.lay(0, 0);
            x.think(kind, HIGH[kind]);
            x.lay(0, 1);
            rowIs(x, 0, LOW[kind] + " " + HIGH[kind]);
        }
    }

    private static void marksAndTicks() {
        SeedDrawers x = new SeedDrawers();
        x.think(MARKS, 'A');
        handIs(x, MARKS, 65);
        x.think(MARKS, 0xFFFF);
        handIs(x, MARKS, 65535);
        x.think(TICKS, 0);
        handIs(x, TICKS, 0);
        x.think(TICKS, 2);
        handIs(x, TICKS, 1);
    }

    private static void thirtyCards() {
        SeedDrawers x = new SeedDrawers();
        x.row(0, CARDS, 12);
        for (int k = 1; k <= 30; k++) {
            due("card()", x.card(), k);
            due("value()", x.value(), k);
            due("lay", x.lay(0, k % 12), 1);
        }
        due("the 31st", x.card(), STATE);
        rowIs(x, 0, "24 25 26 27 28 29 30 19 20 21 22 23");
    }

    private static void handAtFirst() {
        handIs(new SeedDrawers(), NONE, 0);
        SeedDrawers x = new SeedDrawers();
        x.think(GRAINS, 5);
        x.card();
        due("drop(): one thing at a time", x.drop(), CARDS);
        handIs(x, NONE, 0);
    }

    private static void fits() {
        test("Terms: A THING FITS a ROW of its own KIND", TermsEdgesTest::fitsOwnKind);
        test("Terms: a GRAIN one of PODS, COUNTS, DATES, too", () -> fitsWider(GRAINS, PODS, COUNTS, DATES));
        test("Terms: a POD one of COUNTS, DATES", () -> fitsWider(PODS, COUNTS, DATES));
        test("Terms: a MARK one of COUNTS, DATES", () -> fitsWider(MARKS, COUNTS, DATES));
        test("Terms: a COUNT one of DATES", () -> fitsWider(COUNTS, DATES));
        test("Terms: there it is of that ROW's KIND", TermsEdgesTest::isOfTheRowsKind);
        test("Terms: its VALUE stays", TermsEdgesTest::valueStays);
        for (int kind = 0; kind <= 6; kind++) {
            int of = kind;
            test("Terms: No other THING FITS another ROW: " + NAMES[kind], () -> fitsNoOther(of));
        }
        test("Terms: No other THING FITS: nor does one whose VALUE would", TermsEdgesTest::smallValuesFitNoMore);
    }

    private static void hold(SeedDrawers x, int kind, long v) {
        if (kind == CARDS) {
            x.card();
        } else {
            x.think(kind, v);
        }
    }

    private static void fitsOwnKind() {
        for (int kind = 0; kind <= 6; kind++) {
            SeedDrawers x = new SeedDrawers();
            x.row(0, kind, 1);
            x.row(1, kind, 1);
            hold(x, kind, 1);
            due("lay(0, 0) of " + NAMES[kind], x.lay(0, 0), 1);
            rowIs(x, 0, "1");
            due("pour(0, 0, 1, 0, 1) of " + NAMES[kind], x.pour(0, 0, 1, 0, 1), 1);
            rowIs(x, 1, "1");
        }
    }

    private static void fitsWider(int kind, int... rowKinds) {
        for (int rowKind : rowKinds) {
            for (long v : new long[] {LOW[kind], -1, 0, 1, HIGH[kind]}) {
                SeedDrawers x = new SeedDrawers();
                x.row(0, rowKind, 1);
                x.row(1, rowKind, 1);
                Scene.fill(x, 2, kind, v);
                x.think(kind, v);
                due("lay(0, 0) of " + NAMES[kind] + " among " + rowKind, x.lay(0, 0), 1);
                due("pour(2, 0, 1, 0, 1) of " + NAMES[kind] + " among " + rowKind, x.pour(2, 0, 1, 0, 1), 1);
                due("faults(0)", x.faults(0), 0);
            }
        }
    }

    private static void isOfTheRowsKind() {
        for (int kind = 0; kind <= 5; kind++) {
            for (int rowKind : FITTING[kind]) {
                SeedDrawers x = new SeedDrawers();
                x.row(0, rowKind, 1);
                x.think(kind, 1);
                x.lay(0, 0);
                due("hand(): it stays as it was in THE HAND", x.hand(), kind);
                due("find(0) of " + NAMES[kind] + " among " + rowKind, x.find(0), kind == rowKind ? 0 : NONE);
                due("take(0, 0) of " + NAMES[kind] + " among " + rowKind, x.take(0, 0), rowKind);
                due("find(0) of what was taken", x.find(0), 0);
                due("told(0, 0)", x.told(0, 0), 2 + rowKind);
            }
        }
    }

    private static void valueStays() {
        for (int kind = 0; kind <= 5; kind++) {
            for (int rowKind : FITTING[kind]) {
                SeedDrawers x = new SeedDrawers();
                x.row(0, rowKind, 2);
                x.row(1, rowKind, 2);
                Scene.fill(x, 2, kind, LOW[kind], HIGH[kind]);
                x.think(kind, LOW[kind]);
                x.lay(0, 0);
                x.think(kind, HIGH[kind]);
                x.lay(0, 1);
                x.pour(2, 0, 1, 0, 2);
                rowIs(x, 0, LOW[kind] + " " + HIGH[kind]);
                rowIs(x, 1, LOW[kind] + " " + HIGH[kind]);
            }
        }
    }

    private static boolean isFitting(int kind, int rowKind) {
        for (int fitting : FITTING[kind]) {
            if (fitting == rowKind) {
                return true;
            }
        }
        return false;
    }

    private static void fitsNoOther(int kind) {
        for (int rowKind = 0; rowKind <= 6; rowKind++) {
            if (!isFitting(kind, rowKind)) {
                doesNotFit(kind, 1, rowKind);
            }
        }
    }

    /** Drawer 0 has a row of one kind with one thing, drawer 1 a row of another; the hand has a thing of the first. */
    private static SeedDrawers unfitting(int kind, long v, int rowKind) {
        SeedDrawers x = new SeedDrawers();
        x.row(0, kind, 1);
        x.row(1, rowKind, 2);
        hold(x, kind, v);
        x.lay(0, 0);
        return x;
    }

    private static void doesNotFit(int kind, long v, int rowKind) {
        String what = " of " + NAMES[kind] + ", " + v + ", among " + rowKind;
        faultedIn(() -> unfitting(kind, v, rowKind), "lay(1, 1)" + what, x -> x.lay(1, 1), -14, UNFIT);
        faultedIn(() -> unfitting(kind, v, rowKind), "pour(0, 0, 1, 1, 1)" + what, x -> x.pour(0, 0, 1, 1, 1), -100,
            UNFIT);
        faultedIn(() -> unfitting(kind, v, rowKind), "swap(0, 0, 1, 1)" + what, x -> x.swap(0, 0, 1, 1), -14, UNFIT);
        faultedIn(() -> unfitting(kind, v, rowKind), "swap(1, 1, 0, 0)" + what, x -> x.swap(1, 1, 0, 0), -14, UNFIT);
    }

    private static void smallValuesFitNoMore() {
        int[][] pairs = {{PODS, GRAINS}, {COUNTS, GRAINS}, {COUNTS, PODS}, {DATES, COUNTS}, {GRAINS, MARKS},
            {PODS, MARKS}, {MARKS, PODS}, {MARKS, GRAINS}, {COUNTS, MARKS}, {TICKS, GRAINS}, {TICKS, COUNTS},
            {COUNTS, TICKS}, {GRAINS, TICKS}, {COUNTS, CARDS}};
        for (int[] pair : pairs) {
            doesNotFit(pair[0], 0, pair[1]);
        }
    }

    private static void nothingFits() {
        test("Terms: What comes from an EMPTY place is nothing", TermsEdgesTest::emptyIsNothing);
        test("Terms: nothing FITS CARDS (the place is EMPTY then)", TermsEdgesTest::nothingFitsCards);
        test("Terms: nothing FITS CARDS alone", TermsEdgesTest::nothingFitsCardsAlone);
    }

    private static void emptyIsNothing() {
        SeedDrawers x = Scene.full();
        due("take(4, 1)", x.take(4, 1), NONE);
        handIs(x, NONE, 0);
        due("lay(4, 1)", x.lay(4, 1), STATE);
        due("drop()", x.drop(), NONE);
    }

    private static void nothingFitsCards() {
        SeedDrawers x = Scene.full();
        due("pour(4, 1, 4, 0, 1)", x.pour(4, 1, 4, 0, 1), 1);
        rowIs(x, 4, "- - 2");
        due("swap(4, 0, 4, 2)", x.swap(4, 0, 4, 2), 1);
        rowIs(x, 4, "2 - -");
        x.drop();
        due("find(4)", x.find(4), 1);
    }

    private static void nothingFitsCardsAlone() {
        for (int rowKind = 0; rowKind <= 5; rowKind++) {
            int of = rowKind;
            String what = " of an EMPTY place and kind " + rowKind;
            faultedIn(() -> withEmptyAnd(of), "pour(0, 0, 1, 0, 1)" + what, x -> x.pour(0, 0, 1, 0, 1), -100, UNFIT);
            faultedIn(() -> withEmptyAnd(of), "swap(0, 0, 1, 0)" + what, x -> x.swap(0, 0, 1, 0), -14, UNFIT);
            faultedIn(() -> withEmptyAnd(of), "swap(1, 0, 0, 0)" + what, x -> x.swap(1, 0, 0, 0), -14, UNFIT);
        }
    }

    private static SeedDrawers withEmptyAnd(int rowKind) {
        SeedDrawers x = new SeedDrawers();
        x.row(0, CARDS, 1);
        Scene.fill(x, 1, rowKind, 1);
        return x;
    }

    private static void toComeAndToLay() {
        test("Terms: 1 NULL: it has NOTHING", () -> comingMeets(0, NULL));
        test("Terms: 2 KIND: it has a NOTE", () -> comingMeets(1, KIND));
        test("Terms: 3 INDEX: there is no such place", TermsEdgesTest::comingMeetsIndex);
        test("Terms: TO LAY: then 4 UNFIT", TermsEdgesTest::layingMeetsUnfit);
    }

    /** Every act that comes to a place, with places that no row has and one that it might have. */
    private static void comingMeets(int drawer, int fault) {
        for (int i : new int[] {0, -1, 12, LOWEST, HIGHEST}) {
            faulted("take(" + drawer + ", " + i + ")", x -> x.take(drawer, i), fault);
            faulted("lay(" + drawer + ", " + i + ")", x -> x.lay(drawer, i), fault);
            faulted("swap(" + drawer + ", " + i + ", 2, 0)", x -> x.swap(drawer, i, 2, 0), fault);
            faulted("swap(2, 0, " + drawer + ", " + i + ")", x -> x.swap(2, 0, drawer, i), fault);
        }
        for (int i : new int[] {0, 12, 20}) {
            pours("pour(" + drawer + ", " + i + ", 2, 0, 1)", x -> x.pour(drawer, i, 2, 0, 1), fault);
            pours("pour(2, 0, " + drawer + ", " + i + ", 1)", x -> x.pour(2, 0, drawer, i, 1), fault);
        }
    }

    private static void pours(String name, ToLongFunction<SeedDrawers> call, int fault) {
        faultedIn(Scene::full, name, call, -100, fault);
    }

    private static void comingMeetsIndex() {
        int[][] noPlaces = {{2, -1}, {2, 3}, {6, 0}, {6, -1}, {7, 12}, {7, -1}, {7, LOWEST}, {7, HIGHEST}};
        for (int[] p : noPlaces) {
            faulted("take(" + p[0] + ", " + p[1] + ")", x -> x.take(p[0], p[1]), INDEX);
            faulted("lay(" + p[0] + ", " + p[1] + ")", x -> x.lay(p[0], p[1]), INDEX);
            faulted("swap(" + p[0] + ", " + p[1] + ", 2, 0)", x -> x.swap(p[0], p[1], 2, 0), INDEX);
            faulted("swap(2, 0, " + p[0] + ", " + p[1] + ")", x -> x.swap(2, 0, p[0], p[1]), INDEX);
        }
        for (int[] p : new int[][] {{2, 3}, {6, 0}, {7, 12}, {7, 20}}) {
            pours("pour(" + p[0] + ", " + p[1] + ", 7, 0, 1)", x -> x.pour(p[0], p[1], 7, 0, 1), INDEX);
            pours("pour(2, 0, " + p[0] + ", " + p[1] + ", 1)", x -> x.pour(2, 0, p[0], p[1], 1), INDEX);
        }
        changesNothing("swap(7, 0, 7, 0): the first place", x -> x.swap(7, 0, 7, 0), 1);
        changesNothing("swap(7, 11, 7, 11): the last of 12 places", x -> x.swap(7, 11, 7, 11), 1);
        changesNothing("swap(2, 2, 2, 2): the last of 3 places", x -> x.swap(2, 2, 2, 2), 1);
    }

    private static void layingMeetsUnfit() {
        faulted("lay(5, 1)", x -> x.lay(5, 1), UNFIT);
        faulted("lay(5, 2): INDEX ahead of it", x -> x.lay(5, 2), INDEX);
        faulted("swap(4, 0, 5, 1)", x -> x.swap(4, 0, 5, 1), UNFIT);
        faulted("swap(4, 0, 5, 2): INDEX ahead of it", x -> x.swap(4, 0, 5, 2), INDEX);
        pours("pour(4, 0, 5, 1, 1)", x -> x.pour(4, 0, 5, 1, 1), UNFIT);
        pours("pour(4, 0, 5, 2, 1): INDEX ahead of it", x -> x.pour(4, 0, 5, 2, 1), INDEX);
    }

    private static void answers() {
        test("Terms: UNKNOWN ahead of a FAULT", TermsEdgesTest::unknownBeforeFault);
        test("Terms: OUTSIDE ahead of a FAULT", TermsEdgesTest::outsideBeforeFault);
        test("Terms: STATE ahead of a FAULT", TermsEdgesTest::stateBeforeFault);
        test("Terms: -10 less the FAULT", TermsEdgesTest::minus10LessTheFault);
        test("Terms: What is refused changes nothing", TermsEdgesTest::refusedCallsOneByOne);
        test("Terms: what comes to a FAULT changes nothing but as told", TermsEdgesTest::faultsOneByOne);
    }

    private static void unknownBeforeFault() {
        changesNothing("swap(0, 0, 8, 0)", x -> x.swap(0, 0, 8, 0), UNKNOWN);
        changesNothing("swap(2, 3, -1, 0)", x -> x.swap(2, 3, -1, 0), UNKNOWN);
        changesNothing("pour(1, 0, 8, 0, 1)", x -> x.pour(1, 0, 8, 0, 1), UNKNOWN);
        changesNothing("pour(2, 20, -1, 0, 1)", x -> x.pour(2, 20, -1, 0, 1), UNKNOWN);
    }

    private static void outsideBeforeFault() {
        changesNothing("pour(0, 0, 1, 0, 13)", x -> x.pour(0, 0, 1, 0, 13), OUTSIDE);
        changesNothing("pour(0, 0, 1, 21, 1)", x -> x.pour(0, 0, 1, 21, 1), OUTSIDE);
        changesNothing("pour(2, 21, 7, 0, 1)", x -> x.pour(2, 21, 7, 0, 1), OUTSIDE);
        changesNothing("pour(2, 0, 7, -1, 1)", x -> x.pour(2, 0, 7, -1, 1), OUTSIDE);
    }

    private static void stateBeforeFault() {
        changesNothingIn(Scene::fullWithEmptyHand, "lay(0, 0)", x -> x.lay(0, 0), STATE);
        changesNothingIn(Scene::fullWithEmptyHand, "lay(1, 0)", x -> x.lay(1, 0), STATE);
        changesNothingIn(Scene::fullWithEmptyHand, "lay(2, 3)", x -> x.lay(2, 3), STATE);
        changesNothingIn(Scene::fullWithEmptyHand, "lay(2, 0)", x -> x.lay(2, 0), STATE);
    }

    private static void minus10LessTheFault() {
        SeedDrawers x = Scene.full();
        due("find(0)", x.find(0), -11);
        due("turn(1)", x.turn(1), -12);
        due("take(2, 3)", x.take(2, 3), -13);
        due("lay(4, 0)", x.lay(4, 0), -14);
    }

    private static void refusedCallsOneByOne() {
        changesNothing("refused calls with a mark in the hand", TermsEdgesTest::makeRefusedCalls, 0);
        changesNothingIn(Scene::fullWithCardInHand, "refused calls with a card in the hand",
            TermsEdgesTest::makeRefusedCalls, 0);
        changesNothingIn(Scene::fullWithEmptyHand, "refused calls with nothing in the hand",
            TermsEdgesTest::makeRefusedCalls, 0);
    }

    private static long makeRefusedCalls(SeedDrawers x) {
        due("row(8, 3, 1)", x.row(8, COUNTS, 1), UNKNOWN);
        due("row(2, 7, 1)", x.row(2, 7, 1), OUTSIDE);
        due("row(2, 3, 13)", x.row(2, COUNTS, 13), OUTSIDE);
        due("note(-1, 5)", x.note(-1, 5), UNKNOWN);
        due("share(8, 2)", x.share(8, 2), UNKNOWN);
        due("share(2, -1)", x.share(2, -1), UNKNOWN);
        due("clear(8)", x.clear(8), UNKNOWN);
        due("think(6, 5)", x.think(6, 5), OUTSIDE);
        due("take(-1, 0)", x.take(-1, 0), UNKNOWN);
        due("lay(8, 0)", x.lay(8, 0), UNKNOWN);
        due("size(8)", x.size(8), UNKNOWN);
        due("pour(8, 0, 2, 0, 1)", x.pour(8, 0, 2, 0, 1), UNKNOWN);
        due("pour(7, 0, 7, 21, 1)", x.pour(7, 0, 7, 21, 1), OUTSIDE);
        due("swap(2, 0, 8, 0)", x.swap(2, 0, 8, 0), UNKNOWN);
        due("turn(-1)", x.turn(-1), UNKNOWN);
        due("sum(8)", x.sum(8), 0);
        due("find(8)", x.find(8), UNKNOWN);
        due("order(0, 2, 0, 8, 0)", x.order(0, 2, 0, 8, 0), UNKNOWN);
        due("order(5, 2, 0, 2, 0)", x.order(5, 2, 0, 2, 0), OUTSIDE);
        due("order(0, 2, 21, 2, 0)", x.order(0, 2, 21, 2, 0), OUTSIDE);
        due("met(8)", x.met(8), NONE);
        due("faults(5)", x.faults(5), NONE);
        due("told(8, 0)", x.told(8, 0), UNKNOWN);
        due("told(2, 3)", x.told(2, 3), OUTSIDE);
        return 0;
    }

    private static void faultsOneByOne() {
        SeedDrawers x = Scene.full();
        for (int i : new int[] {-1, 3}) {
            due("take(2, " + i + ")", x.take(2, i), -13);
            due("lay(2, " + i + ")", x.lay(2, i), -13);
            due("swap(2, " + i + ", 2, 0)", x.swap(2, i, 2, 0), -13);
            due("swap(2, 0, 2, " + i + ")", x.swap(2, 0, 2, i), -13);
        }
        for (int d = 0; d < 2; d++) {
            long answer = d == 0 ? -11 : -12;
            due("take(" + d + ", 0)", x.take(d, 0), answer);
            due("lay(" + d + ", 0)", x.lay(d, 0), answer);
            due("size(" + d + ")", x.size(d), answer);
            due("swap(2, 0, " + d + ", 0)", x.swap(2, 0, d, 0), answer);
            due("turn(" + d + ")", x.turn(d), answer);
            due("sum(" + d + ")", x.sum(d), 0);
            due("find(" + d + ")", x.find(d), answer);
            due("pour(2, 0, " + d + ", 0, 3)", x.pour(2, 0, d, 0, 3), -100);
        }
        due("lay(5, 0)", x.lay(5, 0), -14);
        due("swap(7, 0, 2, 0)", x.swap(7, 0, 2, 0), -14);
        due("swap(2, 0, 7, 0)", x.swap(2, 0, 7, 0), -14);
        due("pour(4, 0, 2, 0, 3)", x.pour(4, 0, 2, 0, 3), -100);
        // Three faults were met in a full scene: NULL, KIND and INDEX.
        due("faults(1)", x.faults(1), 1 + 8);
        due("faults(2)", x.faults(2), 1 + 8);
        due("faults(3)", x.faults(3), 1 + 8);
        due("faults(4)", x.faults(4), 4);
        due("faults(0)", x.faults(0), 3 + 28);
        due("fault()", x.fault(), UNFIT);
        alike("calls that came to faults", x, Scene.full());
    }
}
