/** A store of seeds: drawers with rows, notes or nothing, and a clerk with one thing in hand. */
public final class SeedDrawers {
    public static final int UNKNOWN = -1, OUTSIDE = -2, STATE = -3, NONE = -9;

    private static final int DRAWERS = 8, MOST_PLACES = 12, MOST_CARDS = 30, MOST_ORDERS = 8;
    private static final int MOST_INDEX = 20, POURED_BY_ORDER = 3;

    private static final int GRAINS = 0, PODS = 1, MARKS = 2, COUNTS = 3, DATES = 4, TICKS = 5, CARDS = 6;

    private static final int HAS_NOTHING = 0, HAS_NOTE = 1, HAS_ROW = 2;

    private static final int NO_FAULT = 0, NULL = 1, KIND = 2, INDEX = 3, UNFIT = 4;
    private static final int FAULT_ANSWER = -10, POUR_ANSWER = -100;

    private static final int TAKE = 0, LAY = 1, SWAP = 2, TURN = 3, POUR = 4;

    private final Content nothing;
    private final Content[] drawers;
    // Eight contents are enough for eight drawers, so they are made once and used again.
    private final Content[] contents;

    private int handKind;
    private long handValue;
    private int cardCount;

    private final Order[] orders;
    private int orderCount;
    private final int[] metFaults;
    private int metCount;

    private int latestFault;
    // At 0 all faults together, at 1 .. 4 those of each number.
    private final int[] faultCounts;

    public SeedDrawers() {
        nothing = new Content();
        drawers = new Content[DRAWERS];
        contents = new Content[DRAWERS];
        for (int k = 0; k < DRAWERS; k++) {
            drawers[k] = nothing;
            contents[k] = new Content();
        }
        handKind = NONE;
        orders = new Order[MOST_ORDERS];
        for (int k = 0; k < MOST_ORDERS; k++) {
            orders[k] = new Order();
        }
        metFaults = new int[MOST_ORDERS];
        faultCounts = new int[UNFIT + 1];
    }

    public int row(int drawer, int kind, int n) {
        if (!isDrawer(drawer)) {
            return UNKNOWN;
        }
        if (kind < GRAINS || kind > CARDS || n < 0 || n > MOST_PLACES) {
            return OUTSIDE;
        }
        newContent(drawer).becomeRow(kind, n);
        return n;
    }

    public int note(int drawer, int v) {
        if (!isDrawer(drawer)) {
            return UNKNOWN;
        }
        newContent(drawer).becomeNote(v);
        return 1;
    }

    public int share(int drawer, int from) {
        if (!isDrawer(drawer) || !isDrawer(from)) {
            return UNKNOWN;
        }
        drawers[drawer] = drawers[from];
        return 1;
    }

    public int clear(int drawer) {
        if (!isDrawer(drawer)) {
            return UNKNOWN;
        }
        int had = drawers[drawer] == nothing ? 0 : 1;
        drawers[drawer] = nothing;
        return had;
    }

    public int think(int kind, long v) {
        if (kind < GRAINS || kind > TICKS) {
            return OUTSIDE;
        }
        hold(kind, valueOfKind(kind, v));
        return 1;
    }

    public int card() {
        if (cardCount >= MOST_CARDS) {
            return STATE;
        }
        cardCount++;
        hold(CARDS, cardCount);
        return cardCount;
    }

    public int drop() {
        int had = handKind;
        hold(NONE, 0);
        return had;
    }

    public int take(int drawer, int i) {
        if (!isDrawer(drawer)) {
            return UNKNOWN;
        }
        Content content = drawers[drawer];
        int fault = content.faultOfComing(i);
        if (fault != NO_FAULT) {
            return meet(fault);
        }
        hold(content.kindAt(i), content.values[i]);
        return handKind;
    }

    public int lay(int drawer, int i) {
        if (!isDrawer(drawer)) {
            return UNKNOWN;
        }
        if (handKind == NONE) {
            return STATE;
        }
        Content content = drawers[drawer];
        int fault = content.faultOfLaying(i, handKind);
        if (fault != NO_FAULT) {
            return meet(fault);
        }
        content.values[i] = handValue;
        return 1;
    }

    public int size(int drawer) {
        if (!isDrawer(drawer)) {
            return UNKNOWN;
        }
        int fault = drawers[drawer].faultOfRow();
        return fault != NO_FAULT ? meet(fault) : drawers[drawer].places;
    }

    public int pour(int drawer, int i, int to, int j, int n) {
        if (!isDrawer(drawer) || !isDrawer(to)) {
            return UNKNOWN;
        }
        if (!isTellableIndex(i) || !isTellableIndex(j) || n < 0 || n > MOST_PLACES) {
            return OUTSIDE;
        }
        for (int k = 0; k < n; k++) {
            int fault = pourOne(drawers[drawer], i + k, drawers[to], j + k);
            if (fault != NO_FAULT) {
                meet(fault);
                return POUR_ANSWER + k;
            }
        }
        return n;
    }

    public int swap(int a, int i, int b, int j) {
        if (!isDrawer(a) || !isDrawer(b)) {
            return UNKNOWN;
        }
        Content first = drawers[a];
        Content second = drawers[b];
        int fault = faultOfSwapping(first, i, second, j);
        if (fault != NO_FAULT) {
            return meet(fault);
        }
        long kept = first.values[i];
        first.values[i] = second.values[j];
        second.values[j] = kept;
        return 1;
    }

    public int turn(int drawer) {
        if (!isDrawer(drawer)) {
            return UNKNOWN;
        }
        int fault = drawers[drawer].faultOfRow();
        return fault != NO_FAULT ? meet(fault) : drawers[drawer].reverse();
    }

    public long sum(int drawer) {
        if (!isDrawer(drawer)) {
            return 0;
        }
        int fault = drawers[drawer].faultOfRow();
        if (fault != NO_FAULT) {
            meet(fault);
            return 0;
        }
        return drawers[drawer].total();
    }

    public int find(int drawer) {
        if (!isDrawer(drawer)) {
            return UNKNOWN;
        }
        int fault = drawers[drawer].faultOfRow();
        return fault != NO_FAULT ? meet(fault) : drawers[drawer].firstPlaceOf(handKind, handValue);
    }

    public int order(int op, int a, int i, int b, int j) {
        if (!isDrawer(a) || !isDrawer(b)) {
            return UNKNOWN;
        }
        if (op < TAKE || op > POUR || !isTellableIndex(i) || !isTellableIndex(j)) {
            return OUTSIDE;
        }
        if (orderCount >= MOST_ORDERS) {
            return STATE;
        }
        orders[orderCount].write(op, a, i, b, j);
        orderCount++;
        return orderCount;
    }

    public int run() {
        int withoutFault = 0;
        for (int k = 0; k < orderCount; k++) {
            int before = faultCounts[0];
            perform(orders[k]);
            metFaults[k] = faultCounts[0] == before ? NO_FAULT : latestFault;
            if (metFaults[k] == NO_FAULT) {
                withoutFault++;
            }
        }
        metCount = orderCount;
        orderCount = 0;
        return withoutFault;
    }

    public int met(int k) {
        return k < 0 || k >= metCount ? NONE : metFaults[k];
    }

    public int fault() {
        return latestFault;
    }

    public int faults(int of) {
        return of < 0 || of > UNFIT ? NONE : faultCounts[of];
    }

    public int told(int drawer, int what) {
        if (!isDrawer(drawer)) {
            return UNKNOWN;
        }
        Content content = drawers[drawer];
        switch (what) {
            case 0:
                return content.has;
            case 1:
                return content.isRow() ? holdersOf(content) : 0;
            case 2:
                return content.noteNumber;
            default:
                return OUTSIDE;
        }
    }

    public int hand() {
        return handKind;
    }

    public long value() {
        return handValue;
    }

    private static boolean isDrawer(int drawer) {
        return drawer >= 0 && drawer < DRAWERS;
    }

    private static boolean isTellableIndex(int i) {
        return i >= 0 && i <= MOST_INDEX;
    }

    private void hold(int kind, long v) {
        handKind = kind;
        handValue = v;
    }

    private static long valueOfKind(int kind, long v) {
        switch (kind) {
            case GRAINS:
                return (byte) v;
            case PODS:
                return (short) v;
            case MARKS:
                return (char) v;
            case COUNTS:
                return (int) v;
            case TICKS:
                return v != 0 ? 1 : 0;
            default:
                return v;
        }
    }

    private static boolean fits(int kind, int rowKind) {
        switch (kind) {
            case NONE:
                return rowKind == CARDS;
            case GRAINS:
                return rowKind == GRAINS || rowKind == PODS || rowKind == COUNTS || rowKind == DATES;
            case PODS:
            case MARKS:
                return rowKind == kind || rowKind == COUNTS || rowKind == DATES;
            case COUNTS:
                return rowKind == COUNTS || rowKind == DATES;
            default:
                return rowKind == kind;
        }
    }

    private int holdersOf(Content content) {
        int holders = 0;
        for (int k = 0; k < DRAWERS; k++) {
            if (drawers[k] == content) {
                holders++;
            }
        }
        return holders;
    }

    private Content newContent(int drawer) {
        drawers[drawer] = nothing;
        // The other seven drawers have seven contents at most: if no later one is free, the first is.
        Content free = contents[0];
        for (int k = 1; k < DRAWERS; k++) {
            if (holdersOf(contents[k]) == 0) {
                free = contents[k];
            }
        }
        drawers[drawer] = free;
        return free;
    }

    private int meet(int fault) {
        latestFault = fault;
        faultCounts[0]++;
        faultCounts[fault]++;
        return FAULT_ANSWER - fault;
    }

    private static int pourOne(Content from, int i, Content to, int j) {
        int fault = from.faultOfComing(i);
        if (fault == NO_FAULT) {
            fault = to.faultOfLaying(j, from.kindAt(i));
        }
        if (fault == NO_FAULT) {
            to.values[j] = from.values[i];
        }
        return fault;
    }

    private static int faultOfSwapping(Content first, int i, Content second, int j) {
        int fault = first.faultOfComing(i);
        if (fault == NO_FAULT) {
            fault = second.faultOfComing(j);
        }
        if (fault == NO_FAULT) {
            fault = first.faultOfLaying(i, second.kindAt(j));
        }
        if (fault == NO_FAULT) {
            fault = second.faultOfLaying(j, first.kindAt(i));
        }
        return fault;
    }

    private void perform(Order order) {
        switch (order.op) {
            case TAKE:
                take(order.a, order.i);
                break;
            case LAY:
                // With nothing in the hand lay answers STATE, which changes nothing and is no fault.
                lay(order.b, order.j);
                break;
            case SWAP:
                swap(order.a, order.i, order.b, order.j);
                break;
            case TURN:
                turn(order.a);
                break;
            default:
                pour(order.a, order.i, order.b, order.j, POURED_BY_ORDER);
                break;
        }
    }

    /** What one or several drawers have; a place of cards holds a card's number, and 0 where it is empty. */
    private static final class Content {
        int has;
        int noteNumber;
        int places;
        final long[] values = new long[MOST_PLACES];

        void becomeNote(int v) {
            has = HAS_NOTE;
            noteNumber = v;
        }

        void becomeRow(int kind, int n) {
            has = HAS_ROW + kind;
            noteNumber = 0;
            places = n;
            for (int i = 0; i < MOST_PLACES; i++) {
                values[i] = 0;
            }
        }

        boolean isRow() {
            return has >= HAS_ROW;
        }

        int faultOfRow() {
            if (has == HAS_NOTHING) {
                return NULL;
            }
            return has == HAS_NOTE ? KIND : NO_FAULT;
        }

        int faultOfComing(int i) {
            int fault = faultOfRow();
            if (fault != NO_FAULT) {
                return fault;
            }
            return i < 0 || i >= places ? INDEX : NO_FAULT;
        }

        int faultOfLaying(int i, int kind) {
            int fault = faultOfComing(i);
            if (fault != NO_FAULT) {
                return fault;
            }
            return fits(kind, has - HAS_ROW) ? NO_FAULT : UNFIT;
        }

        int kindAt(int i) {
            int kind = has - HAS_ROW;
            return kind == CARDS && values[i] == 0 ? NONE : kind;
        }

        int reverse() {
            int pairs = places / 2;
            for (int k = 0; k < pairs; k++) {
                long kept = values[k];
                values[k] = values[places - 1 - k];
                values[places - 1 - k] = kept;
            }
            return pairs;
        }

        long total() {
            long total = 0;
            for (int i = 0; i < places; i++) {
                total += values[i];
            }
            return total;
        }

        int firstPlaceOf(int kind, long v) {
            for (int i = 0; i < places; i++) {
                if (kindAt(i) == kind && values[i] == v) {
                    return i;
                }
            }
            return NONE;
        }
    }

    /** An order as it was given, kept until the next run. */
    private static final class Order {
        int op;
        int a;
        int i;
        int b;
        int j;

        void write(int newOp, int newA, int newI, int newB, int newJ) {
            op = newOp;
            a = newA;
            i = newI;
            b = newB;
            j = newJ;
        }
    }
}
