import java.lang.reflect.Field;
import java.lang.reflect.Method;
import java.lang.reflect.Modifier;
import java.util.Arrays;
import java.util.TreeSet;

/** The public face: what the document lists, and no other member that is not private. */
final class FaceTest {
    private static final Checks checks = new Checks();
    private static final String[] METHODS = {
        "boolean put(int, int, int)", "boolean tool(int, int, int)", "int stock(int)", "int lift(int, int, int)",
        "int profile(int, int, int)", "int rough(int, int, int)", "int fine(int, int)", "int made(int, int)",
        "boolean below()", "int rest(int, int)", "long sum()", "int moves()", "int move(int, int)", "long way()",
        "int repeat(int, int)", "int merge(int, int)"
    };

    public static void main(String[] args) {
        Class<?> face = ReliefPasses.class;
        checks.due("the class is public and final",
            Modifier.isPublic(face.getModifiers()) && Modifier.isFinal(face.getModifiers()), true);
        checks.due("constructors", Arrays.toString(face.getDeclaredConstructors()),
            "[public ReliefPasses(int,int)]");
        methodsAreThose(face);
        fieldsAreThose(face);
        checks.finish();
    }

    private static void methodsAreThose(Class<?> face) {
        TreeSet<String> open = new TreeSet<>();
        TreeSet<String> openNames = new TreeSet<>();
        for (Method method : face.getDeclaredMethods()) {
            if (!Modifier.isPrivate(method.getModifiers())) {
                open.add(text(method));
                openNames.add(method.getName());
            }
        }
        checks.due("methods", open.toString(), new TreeSet<>(Arrays.asList(METHODS)).toString());
        privateNamesAreOthers(face, openNames);
        for (Class<?> inside : face.getDeclaredClasses()) {
            privateNamesAreOthers(inside, openNames);
        }
    }

    private static void privateNamesAreOthers(Class<?> owner, TreeSet<String> openNames) {
        for (Method method : owner.getDeclaredMethods()) {
            checks.due("a private method with a public one's name: " + method,
                Modifier.isPrivate(method.getModifiers()) && openNames.contains(method.getName()), false);
        }
    }

    private static String text(Method method) {
        String parameters = Arrays.toString(method.getParameterTypes());
        return method.getReturnType() + " " + method.getName()
            + "(" + parameters.substring(1, parameters.length() - 1) + ")";
    }

    private static void fieldsAreThose(Class<?> face) {
        TreeSet<String> open = new TreeSet<>();
        for (Field field : face.getDeclaredFields()) {
            if (!Modifier.isPrivate(field.getModifiers())) {
                open.add(field.toString());
            }
        }
        checks.due("fields", open.toString(), "[public static final int ReliefPasses.BALL, "
            + "public static final int ReliefPasses.CONE, public static final int ReliefPasses.FLAT, "
            + "public static final int ReliefPasses.NONE]");
    }
}
