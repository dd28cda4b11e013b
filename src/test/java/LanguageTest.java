import java.io.IOException;
import java.lang.reflect.Field;
import java.lang.reflect.Method;
import java.lang.reflect.Modifier;
import java.nio.file.Files;
import java.nio.file.Path;
import java.util.ArrayList;
import java.util.List;
import java.util.regex.Matcher;
import java.util.regex.Pattern;

/** The rules of ../shared/LANGUAGE.md that can be seen by a look at the program's text and its classes. */
final class LanguageTest {
    private static final Path PROGRAM = Path.of("src/main/java/ReliefPasses.java");
    private static final Checks checks = new Checks();

    public static void main(String[] args) throws IOException {
        String text = withoutComments(Files.readString(PROGRAM));
        wordsAreAllowed(text);
        libraryIsAllowed(text);
        exceptionsAreAllowed(text);
        List<Class<?>> classes = new ArrayList<>(List.of(ReliefPasses.class.getDeclaredClasses()));
        classes.add(ReliefPasses.class);
        checks.due("rule 11: classes, at most twelve", classes.size() <= 12, true);
        classes.forEach(LanguageTest::classIsAllowed);
        methodsAreShort(text);
        checks.finish();
    }

    private static String withoutComments(String text) {
        return text.replaceAll("(?s)/\\*.*?\\*/", "").replaceAll("//[^\n]*", "");
    }

    private static void none(String rule, String pattern, String text) {
        Matcher matcher = Pattern.compile(pattern).matcher(text);
        while (matcher.find()) {
            checks.due(rule + " has nothing like", matcher.group(), "");
        }
    }

    /** Stricter than the rules where the program has no need: it catches nothing, and has no doubles. */
    private static void wordsAreAllowed(String text) {
        none("the file", "\\bpackage\\b", text);
        none("rule 2", "->|::", text);
        none("rule 5", "\\bstatic\\s*\\{", text);
        none("rule 6", "\\b(finally|synchronized|assert|try|catch|equals|hashCode|toString)\\b", text);
        none("rule 10", "\"\\s*\\+|\\+\\s*\"", text);
        none("rule 13", "\\b(System\\.(?!arraycopy\\b)\\w+|Thread|Random|Runtime|Clock)\\b", text);
    }

    private static void libraryIsAllowed(String text) {
        none("rule 4", "import (?!java\\.util\\.(ArrayList|List|Arrays|Iterator|NoSuchElementException);)[^\n]*", text);
        none("rule 4", "\\b(Math|Integer|Long)\\.\\w*Exact\\b", text);
        none("rule 4", "\\bArrays\\.(?!(copyOf|copyOfRange|fill)\\b)\\w+", text);
        none("rule 3", "\\b(double|float)\\b", text);
    }

    private static void exceptionsAreAllowed(String text) {
        none("rule 6", "throw (?!new (IllegalState|IllegalArgument|IndexOutOfBounds)Exception\\(\"[^\"+]*\"\\);)[^\n]*",
            text);
    }

    private static void classIsAllowed(Class<?> owner) {
        int fields = 0;
        for (Field field : owner.getDeclaredFields()) {
            boolean isStatic = Modifier.isStatic(field.getModifiers());
            fields += isStatic ? 0 : 1;
            checks.due("rule 5: a static field is final: " + field,
                isStatic && !Modifier.isFinal(field.getModifiers()), false);
        }
        checks.due("rule 11: fields of " + owner + ", at most twenty", fields <= 20, true);
        for (Method method : owner.getDeclaredMethods()) {
            checks.due("rule 11: at most seven parameters: " + method, method.getParameterCount() <= 7, true);
            checks.due("rule 6: no such method of your own: " + method,
                List.of("equals", "hashCode", "toString").contains(method.getName()), false);
        }
    }

    /** A method ends at the brace that stands as far to the right as its head does. */
    private static void methodsAreShort(String text) {
        Matcher method = Pattern.compile("(?ms)^( +)(?!\\s)[^\n;=]*\\([^\n;]*\\)[^\n;]*\\{\n.*?^\\1\\}").matcher(text);
        int found = 0;
        while (method.find()) {
            found++;
            long lines = method.group().lines().count();
            checks.due("rule 11: " + lines + " lines of " + method.group().lines().findFirst().get().strip(),
                lines <= 60, true);
        }
        checks.due("methods were found", found > 16, true);
    }
}
