import java.lang.reflect.Constructor;
import java.lang.reflect.Field;
import java.lang.reflect.Member;
import java.lang.reflect.Method;
import java.lang.reflect.Modifier;
import java.util.ArrayList;
import java.util.Arrays;
import java.util.List;
import java.util.Set;
import java.util.TreeSet;

/** The public face, and rule 1 and parts of rules 5 and 11 of LANGUAGE.md. */
public final class FaceTest {
    private static final Check CHECK = new Check("FaceTest");
    private static final String STATE = "IllegalStateException";
    private static final String ARGUMENT = "IllegalArgumentException";
    private static final String INDEX = "IndexOutOfBoundsException";
    private static final String[] FACE = {
        "int feed(long) " + ARGUMENT + " " + STATE,
        "int store() " + STATE,
        "int lineCount()",
        "int tokenCount(int) " + INDEX,
        "int tokenKind(int, int) " + INDEX,
        "int tokenStart(int, int) " + INDEX,
        "int sameAtFront(int, int) " + INDEX,
        "boolean setCosts(int, int, int) " + ARGUMENT,
        "int merge(int) " + INDEX + " " + STATE,
        "int clear()",
        "boolean isMerged(int) " + INDEX,
        "int costWith(int) " + INDEX,
        "boolean fits(int) " + INDEX,
        "int strangest()",
        "int slotCount()",
        "int slotKind(int) " + INDEX,
        "int textByte(int, int) " + INDEX,
        "int sizeOf(int, boolean) " + INDEX,
        "int uses(int) " + INDEX,
        "boolean isOptional(int) " + INDEX,
        "int tokenAt(int, int) " + INDEX,
        "int numberAt(int, int) " + INDEX,
        "int distinct(int) " + INDEX,
        "boolean isRising(int) " + INDEX,
        "int bits()",
        "double saving()",
        "int group(int) " + ARGUMENT,
        "int groupOf(int) " + STATE + " " + INDEX,
        "int groupSlots(int) " + STATE + " " + INDEX,
        "long digest()",
    };

    public static void main(String[] args) {
        Class<?> type = LineLearner.class;
        CHECK.same("class", Modifier.toString(type.getModifiers()), "public final");
        CHECK.same("package", type.getPackageName(), "");
        CHECK.same("constructors", Arrays.toString(type.getDeclaredConstructors()), "[public LineLearner()]");
        Set<String> got = new TreeSet<>();
        Set<String> names = new TreeSet<>();
        for (Method method : type.getDeclaredMethods()) {
            if (!Modifier.isPrivate(method.getModifiers())) {
                got.add(told(method));
                names.add(method.getName());
            }
        }
        CHECK.same("methods", got.toString(), new TreeSet<>(Arrays.asList(FACE)).toString());
        privateNames(type, names);
        classesInside(type, names);
        CHECK.finish();
    }

    private static String told(Method method) {
        List<String> types = new ArrayList<>();
        for (Class<?> one : method.getParameterTypes()) {
            types.add(one.getSimpleName());
        }
        StringBuilder told = new StringBuilder();
        String modifiers = Modifier.toString(method.getModifiers());
        told.append(modifiers.equals("public") ? "" : modifiers + " ");
        told.append(method.getReturnType().getSimpleName()).append(' ').append(method.getName());
        told.append('(').append(String.join(", ", types)).append(')');
        for (Class<?> one : method.getExceptionTypes()) {
            told.append(' ').append(one.getSimpleName());
        }
        return told.toString();
    }

    private static void privateNames(Class<?> type, Set<String> faceNames) {
        for (Method method : type.getDeclaredMethods()) {
            if (Modifier.isPrivate(method.getModifiers())) {
                CHECK.same("a private method bears a public name: " + method.getName(),
                        faceNames.contains(method.getName()), false);
            }
        }
    }

    private static void classesInside(Class<?> type, Set<String> faceNames) {
        CHECK.same("at most twelve classes", type.getDeclaredClasses().length < 12, true);
        members(type);
        for (Field field : type.getDeclaredFields()) {
            CHECK.same("private " + field.getName(), Modifier.isPrivate(field.getModifiers()), true);
        }
        for (Class<?> inside : type.getDeclaredClasses()) {
            int modifiers = inside.getModifiers();
            CHECK.same("static " + inside.getName(), Modifier.isStatic(modifiers), true);
            CHECK.same("hidden " + inside.getName(), Modifier.isPublic(modifiers) || Modifier.isProtected(modifiers),
                    false);
            members(inside);
            for (Method method : inside.getDeclaredMethods()) {
                CHECK.same("a public name inside: " + method.getName(), faceNames.contains(method.getName()), false);
            }
        }
    }

    private static void members(Class<?> type) {
        int fields = 0;
        for (Field field : type.getDeclaredFields()) {
            boolean isStatic = Modifier.isStatic(field.getModifiers());
            fields += isStatic ? 0 : 1;
            CHECK.same("final if static: " + field.getName(), !isStatic || Modifier.isFinal(field.getModifiers()), true);
        }
        CHECK.same("at most twenty fields in " + type.getName(), fields <= 20, true);
        for (Method method : type.getDeclaredMethods()) {
            parameters(method, method.getParameterCount());
        }
        for (Constructor<?> constructor : type.getDeclaredConstructors()) {
            parameters(constructor, constructor.getParameterCount());
        }
    }

    private static void parameters(Member member, int count) {
        CHECK.same("at most seven parameters of " + member.getName(), count <= 7, true);
    }
}
