import java.lang.reflect.Field;
import java.lang.reflect.Method;
import java.lang.reflect.Modifier;
import java.util.Arrays;
import java.util.Set;
import java.util.TreeSet;

/** The public face: the constants, the constructor and the methods of the document, and nothing else. */
public final class FaceTest {
    private static final Check CHECK = new Check();
    private static final Set<String> FACE = new TreeSet<>(Arrays.asList("write1", "wipe0", "fault0",
            "lay0", "member2", "eat1", "salt0", "cook1", "cool0", "trade2", "fast0", "undo0", "passes0",
            "left1", "scraper0", "spoil0", "waits0", "most0", "fasts0", "cabal1", "trades0", "power2",
            "seen2", "forget0", "may1", "likely2", "century3", "keep0", "back0", "count1"));

    public static void main(String[] args) {
        constants();
        kind();
        methods();
        classesInside();
        CHECK.finish("face");
    }

    private static void constants() {
        CHECK.due("BAD", SpoonVotes.BAD, -1);
        CHECK.due("NO", SpoonVotes.NO, -2);
        CHECK.due("FULL", SpoonVotes.FULL, -3);
        CHECK.due("NONE", SpoonVotes.NONE, -4);
        Set<String> names = new TreeSet<>();
        for (Field field : SpoonVotes.class.getDeclaredFields()) {
            if (!Modifier.isPrivate(field.getModifiers())) names.add(field.getName());
        }
        CHECK.isTrue("no constants but " + names, names.equals(Set.of("BAD", "NO", "FULL", "NONE")));
    }

    private static void kind() {
        int modifiers = SpoonVotes.class.getModifiers();
        CHECK.isTrue("public and final", Modifier.isPublic(modifiers) && Modifier.isFinal(modifiers));
        CHECK.due("constructors", SpoonVotes.class.getDeclaredConstructors().length, 1);
        CHECK.due("public constructors", SpoonVotes.class.getConstructors().length, 1);
        CHECK.isTrue("without a package", SpoonVotes.class.getPackageName().isEmpty());
    }

    private static void methods() {
        Set<String> found = new TreeSet<>();
        for (Method method : SpoonVotes.class.getDeclaredMethods()) {
            boolean isPrivate = Modifier.isPrivate(method.getModifiers());
            if (!isPrivate) {
                found.add(method.getName() + method.getParameterCount());
                CHECK.isTrue(method + " answers an int", method.getReturnType() == int.class);
                CHECK.isTrue(method + " is public", Modifier.isPublic(method.getModifiers()));
            } else {
                CHECK.isTrue(method + " has a name of its own", isNoNameOfTheFace(method.getName()));
            }
        }
        CHECK.isTrue("the face is " + found, found.equals(FACE));
    }

    private static boolean isNoNameOfTheFace(String name) {
        for (String of : FACE) {
            if (of.substring(0, of.length() - 1).equals(name)) return false;
        }
        return true;
    }

    private static void classesInside() {
        Class<?>[] inside = SpoonVotes.class.getDeclaredClasses();
        CHECK.isTrue("at most twelve classes", inside.length < 12);
        for (Class<?> one : inside) {
            int modifiers = one.getModifiers();
            CHECK.isTrue(one + " is static", Modifier.isStatic(modifiers));
            CHECK.isTrue(one + " is not for others",
                    !Modifier.isPublic(modifiers) && !Modifier.isProtected(modifiers));
            CHECK.isTrue(one + " has at most twenty fields", one.getDeclaredFields().length <= 20);
        }
    }
}
