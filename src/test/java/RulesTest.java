import java.io.IOException;
import java.lang.reflect.Field;
import java.lang.reflect.Method;
import java.lang.reflect.Modifier;
import java.nio.file.Files;
import java.nio.file.Path;
import java.util.regex.Matcher;
import java.util.regex.Pattern;

/** The rules of LANGUAGE.md that a look at the program's text or class can tell; FaceTest looks at rule 1. */
public final class RulesTest {
    private static final Path PROGRAM = Path.of("src", "main", "java", "ClockDesk.java");
    private static final Check CHECK = new Check();

    public static void main(String[] args) throws IOException {
        String code = withoutComments(Files.readString(PROGRAM));
        wordsThatAreRuledOut(code);
        objectsAreMadeByTheConstructorAlone(code);
        methodsStayShort(code);
        parametersAndFields();
        CHECK.end();
    }

    private static String withoutComments(String text) {
        return text.replaceAll("(?s)/\\*.*?\\*/", "").replaceAll("//[^\n]*", "");
    }

    private static int count(String code, String pattern) {
        Matcher matcher = Pattern.compile(pattern).matcher(code);
        int found = 0;
        while (matcher.find()) {
            found++;
        }
        return found;
    }

    /** The document asks for no exception and for nothing of the library that has to be imported. */
    private static void wordsThatAreRuledOut(String code) {
        String[] words = {"package", "import", "throw", "throws", "try", "catch", "finally", "synchronized", "assert",
            "protected", "native", "volatile", "transient", "var", "double", "float", "Object", "System", "Thread"};
        for (String word : words) {
            CHECK.due("the word " + word, count(code, "\\b" + word + "\\b"), 0);
        }
        CHECK.due("lambdas", count(code, "->"), 0);
        CHECK.due("method references", count(code, "::"), 0);
        CHECK.due("names that end in Exact", count(code, "Exact\\b"), 0);
        CHECK.due("static blocks", count(code, "\\bstatic\\s*\\{"), 0);
    }

    private static void objectsAreMadeByTheConstructorAlone(String code) {
        Matcher constructor = Pattern.compile("(?s)    public ClockDesk\\(\\) \\{.*?\n    \\}\n").matcher(code);
        CHECK.due("a constructor", constructor.find(), true);
        CHECK.due("objects made elsewhere", count(constructor.replaceFirst(""), "\\bnew\\b"), 0);
    }

    private static void methodsStayShort(String code) {
        Matcher method = Pattern.compile("(?s)\n    \\w[^;=]*?\\) \\{\n.*?\n    \\}\n").matcher(code);
        int seen = 0;
        while (method.find()) {
            seen++;
            CHECK.due("short: " + method.group().strip().lines().findFirst().orElse(""),
                    method.group().lines().count() <= 60, true);
        }
        CHECK.due("all methods seen", seen >= ClockDesk.class.getDeclaredMethods().length, true);
    }

    private static void parametersAndFields() {
        for (Method method : ClockDesk.class.getDeclaredMethods()) {
            CHECK.due("at most seven parameters: " + method, method.getParameterCount() <= 7, true);
        }
        int fields = 0;
        for (Field field : ClockDesk.class.getDeclaredFields()) {
            boolean isStatic = Modifier.isStatic(field.getModifiers());
            fields += isStatic ? 0 : 1;
            CHECK.due("final if static: " + field, !isStatic || Modifier.isFinal(field.getModifiers()), true);
        }
        CHECK.due("at most twenty fields", fields <= 20, true);
        CHECK.due("at most twelve classes", ClockDesk.class.getDeclaredClasses().length < 12, true);
    }
}
