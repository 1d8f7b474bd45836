import java.util.ArrayList;
import java.util.List;

/** Objects with something of every sort in them, and all that later calls show of an object. */
final class Scene {
    private Scene() {
    }

    /**
     * Drawer 0 has nothing; 1 the note 77; 2 and 3 the same row of counts, 10, 20, 30; 4 cards, 1, EMPTY, 2; 5 grains,
     * -1, 5; 6 a row of no pods; 7 twelve dates. Three orders were run and met NULL, nothing, INDEX; then a call met
     * KIND; two orders wait. The hand has the mark 120.
     */
    static SeedDrawers full() {
        SeedDrawers x = new SeedDrawers();
        x.note(1, 77);
        fill(x, 2, 3, 10, 20, 30);
        x.share(3, 2);
        cards(x, 4, "c-c");
        fill(x, 5, 0, -1, 5);
        x.row(6, 1, 0);
        fill(x, 7, 4, Long.MAX_VALUE, 0, 0, 0, 0, 0, 0, 0, 0, 0, 0, 1);
        x.order(3, 0, 0, 0, 0);
        x.order(3, 6, 0, 0, 0);
        x.order(0, 5, 2, 0, 0);
        x.run();
        x.size(1);
        x.order(4, 2, 0, 7, 3);
        x.order(1, 0, 0, 7, 7);
        x.think(2, 120);
        return x;
    }

    static SeedDrawers fullWithEmptyHand() {
        SeedDrawers x = full();
        x.drop();
        return x;
    }

    static SeedDrawers fullWithCardInHand() {
        SeedDrawers x = full();
        x.take(4, 2);
        return x;
    }

    /** A new row with these values. */
    static void fill(SeedDrawers x, int drawer, int kind, long... values) {
        x.row(drawer, kind, values.length);
        for (int i = 0; i < values.length; i++) {
            x.think(kind, values[i]);
            x.lay(drawer, i);
        }
        x.drop();
    }

    /** A new row of cards: a new card for each 'c', EMPTY for each '-'. */
    static void cards(SeedDrawers x, int drawer, String places) {
        x.row(drawer, 6, places.length());
        for (int i = 0; i < places.length(); i++) {
            if (places.charAt(i) == 'c') {
                x.card();
                x.lay(drawer, i);
            }
        }
        x.drop();
    }

    /** A row's values in their order, '-' for EMPTY; the hand has what was read last. */
    static String values(SeedDrawers x, int drawer) {
        StringBuilder values = new StringBuilder();
        int places = x.size(drawer);
        for (int i = 0; i < places; i++) {
            boolean isEmpty = x.take(drawer, i) == -9;
            values.append(i == 0 ? "" : " ").append(isEmpty ? "-" : Long.toString(x.value()));
        }
        return values.toString();
    }

    /** fault(), then faults(0) to faults(4). */
    static long[] faults(SeedDrawers x) {
        return new long[] {x.fault(), x.faults(0), x.faults(1), x.faults(2), x.faults(3), x.faults(4)};
    }

    /** All that calls show of an object, but for its faults; the object is used up by it. */
    static List<String> shown(SeedDrawers x) {
        List<String> shown = new ArrayList<>();
        shown.add("hand() " + x.hand() + ", value() " + x.value());
        for (int k = 0; k < 8; k++) {
            shown.add("met(" + k + ") " + x.met(k));
        }
        showDrawers(x, shown);
        x.think(4, 99);
        shown.add("an order more " + x.order(0, 2, 0, 0, 0));
        shown.add("run() " + x.run());
        for (int k = 0; k < 8; k++) {
            shown.add("met(" + k + ") after run() " + x.met(k));
        }
        showDrawers(x, shown);
        shown.add("card() " + x.card());
        return shown;
    }

    private static void showDrawers(SeedDrawers x, List<String> shown) {
        for (int d = 0; d < 8; d++) {
            int has = x.told(d, 0);
            shown.add("drawer " + d + " has " + has + ", so have " + x.told(d, 1) + ", note " + x.told(d, 2));
            if (has >= 2) {
                shown.add("drawer " + d + " has " + values(x, d));
            }
        }
    }
}
