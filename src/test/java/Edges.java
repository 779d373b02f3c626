import java.util.HashSet;
import java.util.Set;
import java.util.function.Consumer;
import java.util.function.ObjIntConsumer;
import java.util.function.Supplier;

/** Tests of edges: each holds one sentence of the document and bears the name of its promise or chapter. */
abstract class Edges {
    static final Class<? extends RuntimeException> ARGUMENT = IllegalArgumentException.class;
    static final Class<? extends RuntimeException> STATE = IllegalStateException.class;
    static final Class<? extends RuntimeException> INDEX = IndexOutOfBoundsException.class;
    static final Check CHECK = new Check("EdgesTest");

    /** The ways to look at a learner; a new one for each of them, as an object has 512 calls. */
    private static final String[] VIEW_NAMES = {"the whole", "the lines", "the slots", "what comes later"};
    static final int VIEWS = VIEW_NAMES.length;
    private static final Set<String> PLACES = new HashSet<>();
    private static final Set<String> NAMES = new HashSet<>();
    private static String name = "";

    /** A test of one sentence, which stands at that promise or in that chapter. */
    static void edge(String place, String sentence, Runnable body) {
        name = place + ": " + sentence;
        PLACES.add(place);
        CHECK.same(name + ": its name is its own", NAMES.add(name), true);
        int before = CHECK.counted();
        try {
            body.run();
        } catch (RuntimeException e) {
            CHECK.same(name + ": a call throws", e.toString(), "nothing");
        }
        CHECK.same(name + ": it looks at something", CHECK.counted() > before, true);
    }

    static boolean isNamed(String place) {
        return PLACES.contains(place);
    }

    static int count() {
        return NAMES.size();
    }

    static void same(String what, long got, long want) {
        CHECK.same(name + ": " + what, got, want);
    }

    static void same(String what, boolean got, boolean want) {
        CHECK.same(name + ": " + what, got, want);
    }

    static void same(String what, double got, double want) {
        CHECK.same(name + ": " + what, got, want);
    }

    static void same(String what, String got, String want) {
        CHECK.same(name + ": " + what, got, want);
    }

    /** The very exception is due; a test that needs more looks at the rest itself. */
    static void throwsIt(String what, Class<? extends RuntimeException> due, Runnable call) {
        same(what + " throws", Texts.thrownBy(call), due.getName());
    }

    /**
     * The very exception is due. Of two learners that are made alike one gets the refused call; whatever is asked
     * and done afterwards, they must answer the same.
     */
    static void refused(String what, Class<? extends RuntimeException> due, Supplier<LineLearner> maker,
            Consumer<LineLearner> act) {
        for (int view = 0; view < VIEWS; view++) {
            LineLearner x = maker.get();
            LineLearner y = maker.get();
            throwsIt(what, due, () -> act.accept(x));
            same(what + " changes nothing: " + VIEW_NAMES[view], seen(view, x), seen(view, y));
        }
    }

    static String seen(int view, LineLearner x) {
        switch (view) {
            case 0: return Texts.wholeOf(x);
            case 1: return Texts.linesOf(x);
            case 2: return Texts.slotsOf(x);
            default: return Texts.laterOf(x);
        }
    }

    static void refusedEach(String what, Class<? extends RuntimeException> due, Supplier<LineLearner> maker,
            int[] wrong, ObjIntConsumer<LineLearner> act) {
        for (int one : wrong) {
            refused(what + " of " + one, due, maker, x -> act.accept(x, one));
        }
    }

    static int[] wrong(int... more) {
        return more;
    }

    /** Too small and too large for a count. */
    static int[] beside(int count) {
        return new int[] {-1, count, Integer.MAX_VALUE, Integer.MIN_VALUE};
    }

    /** Something of everything: costs, 4 lines, one of them empty and not merged, 4 slots, a grouping, a buffer. */
    static LineLearner rich() {
        LineLearner x = Texts.withLines("ab-1", "cd-22", "", "ab 7");
        x.setCosts(3, 2, 5);
        x.merge(0);
        x.merge(1);
        x.merge(3);
        x.group(4);
        Texts.feed(x, "k9");
        return x;
    }

    /** 40 slots of lines 0 and 1: a1a1a1a1a1, then 30 signs; line 2 needs a 41st slot, line 3 does not. */
    static LineLearner full() {
        LineLearner x = Texts.withLines("-".repeat(30), "a1a1a1a1a1", "a1a1a1a1a1a", "-");
        x.merge(0);
        x.merge(1);
        x.group(4);
        Texts.feed(x, "k9");
        return x;
    }

    static LineLearner twelve() {
        LineLearner x = new LineLearner();
        for (int line = 0; line < 12; line++) {
            Texts.store(x, "-".repeat(line % 4));
        }
        return x;
    }
}
