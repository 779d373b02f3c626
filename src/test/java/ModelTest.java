import java.lang.reflect.InvocationTargetException;
import java.lang.reflect.Method;
import java.util.Arrays;
import java.util.HashMap;
import java.util.Map;

/** Long runs of calls, ordinary and wrong ones, whose answers the model must share: all promises at once. */
public final class ModelTest {
    private static final Check CHECK = new Check("ModelTest");
    private static final int RUNS = 1000;
    private static final int CALLS = 512;
    private static final String[] PARTS = {"a", "b", "ab", "id", "1", "2", "12", "007", " ", "  ", "-", "?", "=", ":",
        "a", "-", "1", " ", "40000000", "9999999"};
    private static final String[] SHORT_PARTS = {"-", "a", "1", "-1", "a-", "1a"};
    private static final String[] ASKED = {"lineCount", "tokenCount", "tokenKind", "tokenStart", "sameAtFront",
        "isMerged", "costWith", "fits", "strangest", "slotCount", "slotKind", "textByte", "sizeOf", "uses",
        "isOptional", "tokenAt", "numberAt", "distinct", "isRising", "bits", "saving", "groupOf", "groupSlots",
        "digest"};

    private final Map<String, Method> ofProgram = methodsOf(LineLearner.class);
    private final Map<String, Method> ofModel = methodsOf(Model.class);
    private final int run;
    private long seed;
    private int lines;
    private int slots;

    private ModelTest(int run) {
        this.run = run;
        this.seed = run * 7919L + 13L;
    }

    public static void main(String[] args) throws ReflectiveOperationException {
        int same = 0;
        // A few runs that differ tell enough.
        for (int run = 0; run < RUNS && run < same + 5; run++) {
            if (new ModelTest(run).isRunTheSame()) {
                same++;
            }
        }
        CHECK.same("the number of runs as the model answers them", same, RUNS);
        CHECK.finish();
    }

    private static Map<String, Method> methodsOf(Class<?> type) {
        Map<String, Method> found = new HashMap<>();
        for (Method method : type.getDeclaredMethods()) {
            if (Arrays.asList(ASKED).contains(method.getName()) || isChanging(method.getName())) {
                found.put(method.getName(), method);
            }
        }
        return found;
    }

    private static boolean isChanging(String name) {
        return Arrays.asList("feed", "store", "setCosts", "merge", "clear", "group").contains(name);
    }

    private boolean isRunTheSame() throws ReflectiveOperationException {
        LineLearner x = new LineLearner();
        Model model = new Model();
        for (int call = 0; call < CALLS; call++) {
            lines = model.lineCount();
            slots = model.slotCount();
            String name = nextName(call);
            Object[] args = argsOf(name);
            String due = answer(ofModel.get(name), model, args);
            String got = answer(ofProgram.get(name), x, args);
            if (!got.equals(due)) {
                CHECK.same("run " + run + ", call " + call + ": " + name + Arrays.toString(args), got, due);
                return false;
            }
        }
        return true;
    }

    /** The same numbers in every run of this test: a seed and no random source. */
    private int below(int bound) {
        seed = seed * 6364136223846793005L + 1442695040888963407L;
        return (int) ((seed >>> 33) % bound);
    }

    private String nextName(int call) {
        // Few lines in some runs, so that small formats are met often.
        int mostLines = run % 3 == 0 ? 3 : 13;
        int kind = below(100);
        if (call < 4 || kind < 22 && lines < mostLines) {
            return call < 4 || kind < (hasLongLines() ? 19 : 16) ? "feed" : "store";
        }
        if (kind < 26) {
            return "setCosts";
        }
        if (kind < 45) {
            return "merge";
        }
        return kind == 45 ? "clear" : kind < 50 ? "group" : ASKED[below(ASKED.length)];
    }

    private boolean hasLongLines() {
        return run % 4 == 1;
    }

    private boolean hasSmallCosts() {
        return run % 8 < 4;
    }

    private Object[] argsOf(String name) {
        switch (name) {
            case "feed": return new Object[] {bytes()};
            case "setCosts": return new Object[] {cost(), cost(), cost()};
            case "group": return new Object[] {below(2) == 0 ? below(12) : below(206) - 2};
            case "tokenKind": case "tokenStart": return new Object[] {line(), below(32) - 1};
            case "sameAtFront": return new Object[] {line(), line()};
            case "textByte": return new Object[] {slot(), below(4) - 1};
            case "sizeOf": return new Object[] {slot(), below(2) == 0};
            case "tokenAt": case "numberAt": return new Object[] {line(), slot()};
            case "merge": case "tokenCount": case "isMerged": case "costWith": case "fits": case "groupOf":
                return new Object[] {line()};
            case "slotKind": case "uses": case "isOptional": case "distinct": case "isRising":
                return new Object[] {slot()};
            case "groupSlots": return new Object[] {below(14) - 1};
            default: return new Object[0];
        }
    }

    private long bytes() {
        if (below(40) == 0) {
            return seed >>> below(64);
        }
        String[] parts = hasLongLines() ? SHORT_PARTS : PARTS;
        String text = parts[below(parts.length)] + parts[below(parts.length)] + parts[below(parts.length)];
        return Texts.packed(text.substring(0, Math.min(8, text.length())));
    }

    private int cost() {
        return hasSmallCosts() ? below(3) : below(40) == 0 ? below(24) - 2 : below(21);
    }

    private int line() {
        return below(12) == 0 ? below(16) - 2 : below(Math.max(1, lines));
    }

    private int slot() {
        return below(12) == 0 ? below(45) - 2 : below(Math.max(1, slots));
    }

    private static String answer(Method method, Object of, Object[] args) throws ReflectiveOperationException {
        try {
            return "" + method.invoke(of, args);
        } catch (InvocationTargetException e) {
            // The model lets lists and texts throw kinds of it of their own; the program must not.
            if (of instanceof Model && e.getCause() instanceof IndexOutOfBoundsException) {
                return IndexOutOfBoundsException.class.getName();
            }
            return e.getCause().getClass().getName();
        }
    }
}
