import java.io.IOException;
import java.lang.reflect.Method;
import java.lang.reflect.Modifier;
import java.nio.file.DirectoryStream;
import java.nio.file.Files;
import java.nio.file.Path;
import java.util.Set;
import java.util.TreeSet;
import java.util.regex.Matcher;
import java.util.regex.Pattern;

/** README.md shows each method of the face with the answer that the program gives, and names each test. */
public final class ReadmeTest {
    private static final Pattern CALL = Pattern.compile("(?m)^desk\\.(\\w+)\\(([^)]*)\\);\\s+// (-?\\w+)");
    private static final Check CHECK = new Check();

    public static void main(String[] args) throws IOException, ReflectiveOperationException {
        String readme = Files.readString(Path.of("README.md"));
        CHECK.due("every method is shown", playExamples(readme).equals(publicMethods()), true);
        testsAreNamed(readme);
        CHECK.end();
    }

    /** All the calls are made on one desk, from the first line to the last one, as a reader would make them. */
    private static Set<String> playExamples(String readme) throws ReflectiveOperationException {
        ClockDesk desk = new ClockDesk();
        Set<String> shown = new TreeSet<>();
        Matcher call = CALL.matcher(readme);
        while (call.find()) {
            shown.add(call.group(1));
            CHECK.same(call.group(), String.valueOf(answer(desk, call.group(1), call.group(2))), call.group(3));
        }
        return shown;
    }

    private static Object answer(ClockDesk desk, String name, String list) throws ReflectiveOperationException {
        Method method = named(name);
        Class<?>[] types = method.getParameterTypes();
        String[] texts = list.isEmpty() ? new String[0] : list.split(", ");
        Object[] values = new Object[texts.length];
        for (int i = 0; i < texts.length; i++) {
            if (types[i] == int.class) {
                values[i] = Integer.valueOf(texts[i]);
            } else {
                values[i] = Long.valueOf(texts[i]);
            }
        }
        return method.invoke(desk, values);
    }

    private static Method named(String name) throws NoSuchMethodException {
        for (Method method : ClockDesk.class.getDeclaredMethods()) {
            if (method.getName().equals(name)) {
                return method;
            }
        }
        throw new NoSuchMethodException(name);
    }

    private static Set<String> publicMethods() {
        Set<String> names = new TreeSet<>();
        for (Method method : ClockDesk.class.getDeclaredMethods()) {
            if (Modifier.isPublic(method.getModifiers())) {
                names.add(method.getName());
            }
        }
        return names;
    }

    private static void testsAreNamed(String readme) throws IOException {
        try (DirectoryStream<Path> tests = Files.newDirectoryStream(Path.of("src", "test", "java"), "*Test.java")) {
            for (Path test : tests) {
                String name = test.getFileName().toString().replace(".java", "");
                CHECK.due("a row for " + name, readme.contains("| `" + name + "`"), true);
            }
        }
    }
}
