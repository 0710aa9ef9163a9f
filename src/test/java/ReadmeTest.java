import java.io.IOException;
import java.lang.reflect.Method;
import java.lang.reflect.Modifier;
import java.nio.file.DirectoryStream;
import java.nio.file.Files;
import java.nio.file.Path;
import java.util.regex.Matcher;
import java.util.regex.Pattern;

/** What README.md says of the class and of the tests is so. */
public final class ReadmeTest {
    private static final Path PAGE = Path.of("README.md");
    private static final Path TESTS = Path.of("src/test/java");
    // A call of the example, and behind it the answer that the page tells, if it tells one.
    private static final Pattern CALL = Pattern.compile("(?m)^x\\.(\\w+)\\((.*?)\\);(?: *// (true|false|-?\\d+))?");

    public static void main(String[] args) throws Exception {
        String page = Files.readString(PAGE);
        example(page);
        namesCalls(page);
        namesTests(page);
        Check.due("says how tests are run", true, page.contains("\n.ci/run\n"));
        Check.end("ReadmeTest");
    }

    private static void example(String page) throws Exception {
        ElephantLine x = new ElephantLine();
        Matcher call = CALL.matcher(page);
        int told = 0;
        while (call.find()) {
            Method method = publicMethod(call.group(1));
            Check.due(call.group(1) + " is a call", true, method != null);
            if (method != null) {
                Object answer = method.invoke(x, arguments(method, call.group(2)));
                told += call.group(3) == null ? 0 : 1;
                Check.due(call.group() + " answers " + answer, true,
                    call.group(3) == null || call.group(3).equals(answer.toString()));
            }
        }
        Check.due("the example tells answers", true, told > 0);
    }

    private static Method publicMethod(String name) {
        for (Method method : ElephantLine.class.getDeclaredMethods()) {
            if (method.getName().equals(name) && Modifier.isPublic(method.getModifiers())) {
                return method;
            }
        }
        return null;
    }

    private static Object[] arguments(Method method, String list) {
        Class<?>[] types = method.getParameterTypes();
        String[] texts = list.isEmpty() ? new String[0] : list.split(", ");
        Object[] values = new Object[texts.length];
        for (int i = 0; i < texts.length; i++) {
            boolean isFlag = i < types.length && types[i] == boolean.class;
            values[i] = isFlag ? (Object) Boolean.valueOf(texts[i]) : (Object) Long.decode(texts[i]).intValue();
        }
        return values;
    }

    private static void namesCalls(String page) {
        for (Method method : ElephantLine.class.getDeclaredMethods()) {
            if (Modifier.isPublic(method.getModifiers())) {
                Check.due("names " + method.getName(), true, page.contains("`" + method.getName() + "`"));
            }
        }
    }

    private static void namesTests(String page) throws IOException {
        try (DirectoryStream<Path> files = Files.newDirectoryStream(TESTS, "*Test.java")) {
            for (Path file : files) {
                String name = file.getFileName().toString().replace(".java", "");
                Check.due("names " + name, true, page.contains("| `" + name + "` |"));
            }
        }
    }
}
