import java.io.IOException;
import java.lang.reflect.Method;
import java.lang.reflect.Modifier;
import java.nio.file.DirectoryStream;
import java.nio.file.Files;
import java.nio.file.Path;
import java.util.regex.Matcher;
import java.util.regex.Pattern;

/** README.md's session, made call by call, and what the page has to name. */
public final class ReadmeTest {
    private static final Path PAGE = Path.of("README.md");
    private static final Path TESTS = Path.of("src/test/java");
    private static final Pattern CALL = Pattern.compile("cache\\.(\\w+)\\((.*)\\); +// (-?\\d+): .*");

    private static final Checks CHECKS = new Checks();

    public static void main(String[] args) throws ReflectiveOperationException, IOException {
        String page = Files.readString(PAGE);
        session(page);
        for (Method method : ParoleCache.class.getDeclaredMethods()) {
            if (Modifier.isPublic(method.getModifiers())) {
                named(page, method.getName());
            }
        }
        testsAreNamed(page);
        CHECKS.close("ReadmeTest");
    }

    private static void named(String page, String name) {
        CHECKS.due("`" + name + "` is named", 1, page.contains("`" + name + "`") ? 1 : 0);
    }

    private static void session(String page) throws ReflectiveOperationException {
        ParoleCache cache = new ParoleCache();
        int calls = 0;
        for (String line : page.split("\\R")) {
            Matcher call = CALL.matcher(line);
            if (call.matches()) {
                calls++;
                int answer = (Integer) answer(cache, call.group(1), call.group(2));
                CHECKS.due(line.trim(), Integer.parseInt(call.group(3)), answer);
            } else if (line.startsWith("cache.")) {
                CHECKS.due("'" + line + "' is a call with its answer", 1, 0);
            }
        }
        CHECKS.due("there is a session", 1, Math.min(1, calls));
    }

    private static Object answer(ParoleCache cache, String name, String arguments)
            throws ReflectiveOperationException {
        String[] words = arguments.isEmpty() ? new String[0] : arguments.split(", ");
        Object[] values = new Object[words.length];
        for (int i = 0; i < words.length; i++) {
            values[i] = words[i].startsWith("'") ? (Object) words[i].charAt(1) : (Object) Integer.valueOf(words[i]);
        }
        for (Method method : ParoleCache.class.getMethods()) {
            if (method.getName().equals(name) && method.getParameterCount() == values.length) {
                return method.invoke(cache, values);
            }
        }
        throw new NoSuchMethodException(name + " with " + values.length + " arguments");
    }

    private static void testsAreNamed(String page) throws IOException {
        try (DirectoryStream<Path> files = Files.newDirectoryStream(TESTS, "*.java")) {
            for (Path file : files) {
                named(page, file.getFileName().toString().replace(".java", ""));
            }
        }
        Matcher test = Pattern.compile("`(\\w+Test)`").matcher(page);
        while (test.find()) {
            CHECKS.due("there is a test " + test.group(1), 1,
                Files.exists(TESTS.resolve(test.group(1) + ".java")) ? 1 : 0);
        }
    }
}
