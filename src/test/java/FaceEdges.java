import java.lang.reflect.InvocationTargetException;
import java.lang.reflect.Method;
import java.lang.reflect.Modifier;
import java.util.ArrayList;
import java.util.Arrays;
import java.util.List;
import java.util.function.Supplier;

/** Edges of the chapter "The public face": what a method throws, it declares; nothing else reaches its caller. */
final class FaceEdges extends Edges {
    private static final int[] INTS = {Integer.MIN_VALUE, -2, -1, 0, 1, 4, 12, 20, 21, 30, 39, 40, 41, 200, 201,
        Integer.MAX_VALUE};
    private static final long[] LONGS = {Long.MIN_VALUE, -1, 0, 1, 31, 32, 126, 127, 255, 0x6161616161616161L,
        0x1F1F1F1F1F1F1F1FL, Long.MAX_VALUE};

    static void run() {
        edge("The public face", "any method, of any learner, at the edges of its arguments: its own exceptions or none",
                () -> {
            List<Supplier<LineLearner>> makers = List.of(LineLearner::new, Edges::rich, Edges::full, Edges::twelve,
                    FaceEdges::brimful);
            for (Method method : LineLearner.class.getDeclaredMethods()) {
                if (Modifier.isPublic(method.getModifiers())) {
                    for (Supplier<LineLearner> maker : makers) {
                        callAll(method, maker, new ArrayList<>());
                    }
                }
            }
        });
    }

    /** As much of everything as there can be. */
    private static LineLearner brimful() {
        LineLearner x = new LineLearner();
        String[] texts = {"-".repeat(30), "a1a1a1a1a1", "1".repeat(30), " a".repeat(15)};
        for (int line = 0; line < 12; line++) {
            Texts.store(x, texts[line % 4]);
        }
        for (int line = 0; line < 12; line++) {
            int one = line;
            Texts.thrownBy(() -> x.merge(one));
        }
        x.group(200);
        Texts.feed(x, "-".repeat(30));
        return x;
    }

    private static void callAll(Method method, Supplier<LineLearner> maker, List<Object> args) {
        Class<?>[] types = method.getParameterTypes();
        if (args.size() == types.length) {
            call(method, maker.get(), args);
            return;
        }
        for (Object one : edgesOf(types[args.size()])) {
            List<Object> more = new ArrayList<>(args);
            more.add(one);
            callAll(method, maker, more);
        }
    }

    private static Object[] edgesOf(Class<?> type) {
        if (type == int.class) {
            return Arrays.stream(INTS).boxed().toArray();
        }
        return type == long.class ? Arrays.stream(LONGS).boxed().toArray() : new Object[] {false, true};
    }

    private static void call(Method method, LineLearner x, List<Object> args) {
        String thrown = "nothing";
        boolean isDeclared = true;
        try {
            method.invoke(x, args.toArray());
        } catch (InvocationTargetException e) {
            thrown = e.getCause().toString();
            isDeclared = Arrays.asList(method.getExceptionTypes()).contains(e.getCause().getClass());
        } catch (IllegalAccessException e) {
            throw new IllegalStateException(e);
        }
        same(method.getName() + args + " throws " + thrown + ": it is declared", isDeclared, true);
    }
}
