import java.util.List;
import java.util.function.Supplier;
import java.util.function.ToLongFunction;

/** What the tests of the document's boundary sentences have in common: one test for each sentence. */
abstract class Edges {
    static final int UNKNOWN = -1, OUTSIDE = -2, STATE = -3, NONE = -9;
    static final int GRAINS = 0, PODS = 1, MARKS = 2, COUNTS = 3, DATES = 4, TICKS = 5, CARDS = 6;
    static final int NULL = 1, KIND = 2, INDEX = 3, UNFIT = 4;
    static final int LOWEST = Integer.MIN_VALUE, HIGHEST = Integer.MAX_VALUE;
    /** The first numbers on both sides that are no drawers, and the last ints. */
    static final int[] NO_DRAWERS = {-1, 8, LOWEST, HIGHEST};
    /** The first numbers on both sides that are not 0 .. 20, and the last ints. */
    static final int[] NOT_TO_20 = {-1, 21, LOWEST, HIGHEST};
    /** The first numbers on both sides that are not 0 .. 12, and the last ints. */
    static final int[] NOT_TO_12 = {-1, 13, LOWEST, HIGHEST};

    private static final Check check = new Check();

    /** A run of a test; what it throws is a wrong answer too, so that the tests behind it are run. */
    static void test(String sentence, Runnable test) {
        check.part(sentence);
        try {
            test.run();
        } catch (RuntimeException e) {
            check.fail("threw " + e);
        }
    }

    static void end() {
        check.end();
    }

    static void due(String call, long got, long want) {
        check.due(call, got, want);
    }

    /** A drawer has a row of these values, '-' for EMPTY; the hand has what was read last. */
    static void rowIs(SeedDrawers x, int drawer, String values) {
        same("drawer " + drawer, Scene.values(x, drawer), values);
    }

    static void handIs(SeedDrawers x, int kind, long value) {
        due("hand()", x.hand(), kind);
        due("value()", x.value(), value);
    }

    /** A call on a full scene has this answer, and changes nothing. */
    static void changesNothing(String name, ToLongFunction<SeedDrawers> call, long answer) {
        changesNothingIn(Scene::full, name, call, answer);
    }

    /** Two objects are made alike, and one of them gets the call: nothing tells them apart then. */
    static void changesNothingIn(Supplier<SeedDrawers> scene, String name, ToLongFunction<SeedDrawers> call,
            long answer) {
        SeedDrawers x = scene.get();
        SeedDrawers y = scene.get();
        due(name, call.applyAsLong(x), answer);
        sameFaults(name, Scene.faults(x), Scene.faults(y));
        alike(name, x, y);
    }

    /** A call on a full scene comes to this fault, answers -10 less it, and changes nothing else. */
    static void faulted(String name, ToLongFunction<SeedDrawers> call, int fault) {
        faultedIn(Scene::full, name, call, -10 - fault, fault);
    }

    /** Two objects are made alike, and one of them gets the call: just one fault more tells them apart then. */
    static void faultedIn(Supplier<SeedDrawers> scene, String name, ToLongFunction<SeedDrawers> call, long answer,
            int fault) {
        SeedDrawers x = scene.get();
        SeedDrawers y = scene.get();
        due(name, call.applyAsLong(x), answer);
        long[] faults = Scene.faults(y);
        faults[0] = fault;
        faults[1]++;
        faults[1 + fault]++;
        sameFaults(name, Scene.faults(x), faults);
        alike(name, x, y);
    }

    /** Nothing tells two objects apart, but for their faults; both are used up by it. */
    static void alike(String name, SeedDrawers x, SeedDrawers y) {
        same(name, Scene.shown(x), Scene.shown(y));
    }

    private static void sameFaults(String name, long[] got, long[] want) {
        due("behind " + name + ": fault()", got[0], want[0]);
        for (int of = 0; of <= 4; of++) {
            due("behind " + name + ": faults(" + of + ")", got[1 + of], want[1 + of]);
        }
    }

    private static void same(String name, List<String> got, List<String> want) {
        due("behind " + name + ": how much is shown", got.size(), want.size());
        for (int k = 0; k < got.size() && k < want.size(); k++) {
            same("behind " + name, got.get(k), want.get(k));
        }
    }

    private static void same(String name, String got, String want) {
        if (!got.equals(want)) {
            check.fail(name + ": '" + got + "', due is '" + want + "'");
        }
    }
}
