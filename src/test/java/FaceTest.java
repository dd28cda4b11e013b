import java.lang.reflect.Field;
import java.lang.reflect.Method;
import java.lang.reflect.Modifier;
import java.util.Arrays;
import java.util.TreeSet;

/** "The public face": what the document lists, with its exceptions, and no other member that is not private. */
final class FaceTest {
    private static final Checks checks = new Checks();
    private static final String PLACE = "IndexOutOfBoundsException";
    private static final String NUMBER = "IllegalArgumentException";
    private static final String STATE = "IllegalStateException";
    private static final String[] METHODS = {
        "boolean put(int, int, int) throws " + PLACE + ", " + NUMBER,
        "boolean tool(int, int, int) throws " + PLACE + ", " + NUMBER,
        "int stock(int) throws " + NUMBER + ", " + STATE,
        "int lift(int, int, int) throws " + PLACE,
        "int profile(int, int, int) throws " + PLACE,
        "int rough(int, int, int) throws " + PLACE + ", " + NUMBER,
        "int fine(int, int) throws " + PLACE + ", " + NUMBER,
        "int made(int, int) throws " + PLACE,
        "boolean below()",
        "int rest(int, int) throws " + NUMBER,
        "long sum()",
        "int moves()",
        "int move(int, int) throws " + PLACE + ", " + NUMBER,
        "long way()",
        "int repeat(int, int) throws " + NUMBER,
        "int merge(int, int) throws " + NUMBER + ", " + STATE
    };

    public static void main(String[] args) {
        Class<?> face = ReliefPasses.class;
        checks.due("the class is public and final",
            Modifier.isPublic(face.getModifiers()) && Modifier.isFinal(face.getModifiers()), true);
        checks.due("constructors", Arrays.toString(face.getDeclaredConstructors()),
            "[public ReliefPasses(int,int)]");
        methodsAreThose(face);
        fieldsAreThose(face);
        classesInsideAreHidden(face);
        checks.finish();
    }

    private static void methodsAreThose(Class<?> face) {
        TreeSet<String> open = new TreeSet<>();
        TreeSet<String> openNames = new TreeSet<>();
        for (Method method : face.getDeclaredMethods()) {
            if (!Modifier.isPrivate(method.getModifiers())) {
                open.add(text(method));
                openNames.add(method.getName());
            }
        }
        checks.due("methods", open.toString(), new TreeSet<>(Arrays.asList(METHODS)).toString());
        privateNamesAreOthers(face, openNames);
        for (Class<?> inside : face.getDeclaredClasses()) {
            privateNamesAreOthers(inside, openNames);
        }
    }

    private static void privateNamesAreOthers(Class<?> owner, TreeSet<String> openNames) {
        for (Method method : owner.getDeclaredMethods()) {
            checks.due("a private method with a public one's name: " + method,
                Modifier.isPrivate(method.getModifiers()) && openNames.contains(method.getName()), false);
        }
    }

    private static String text(Method method) {
        String start = method.getReturnType() + " " + method.getName() + "(" + names(method.getParameterTypes()) + ")";
        return method.getExceptionTypes().length == 0 ? start : start + " throws " + names(method.getExceptionTypes());
    }

    private static String names(Class<?>[] types) {
        StringBuilder text = new StringBuilder();
        for (Class<?> type : types) {
            text.append(text.length() == 0 ? "" : ", ").append(type.getSimpleName());
        }
        return text.toString();
    }

    private static void fieldsAreThose(Class<?> face) {
        TreeSet<String> open = new TreeSet<>();
        for (Field field : face.getDeclaredFields()) {
            if (!Modifier.isPrivate(field.getModifiers())) {
                open.add(field.toString());
            }
        }
        checks.due("fields", open.toString(), "[public static final int ReliefPasses.BALL, "
            + "public static final int ReliefPasses.CONE, public static final int ReliefPasses.FLAT, "
            + "public static final int ReliefPasses.NONE]");
    }

    private static void classesInsideAreHidden(Class<?> face) {
        for (Class<?> inside : face.getDeclaredClasses()) {
            int modifiers = inside.getModifiers();
            checks.due(inside + " is static, neither public nor protected", Modifier.isStatic(modifiers)
                && !Modifier.isPublic(modifiers) && !Modifier.isProtected(modifiers), true);
        }
    }
}
