import java.lang.reflect.Method;
import java.lang.reflect.Modifier;
import java.nio.file.DirectoryStream;
import java.nio.file.Files;
import java.nio.file.Path;
import java.util.TreeSet;
import java.util.regex.Matcher;
import java.util.regex.Pattern;

/** That README.md tells the truth: its example's answers, each call in it, the test files that it names. */
public final class ReadmeTest {
    private static final Checks C = new Checks("ReadmeTest");
    private static final Pattern EXAMPLE = Pattern.compile("(?s)```java\n(.*?)```");
    private static final Pattern CALL = Pattern.compile("x\\.(\\w+)\\((.*?)\\); +// (-?\\d+): .+");
    private static final Pattern TEXT = Pattern.compile("for \\(char sign : \"(.*)\"\\.toCharArray\\(\\)\\) \\{");
    private static final Pattern TEST_FILE = Pattern.compile("src/test/java/\\w+\\.java");

    public static void main(String[] args) throws Exception {
        String readme = Files.readString(Path.of("README.md"));
        answers(readme);
        files(readme);
        C.finish();
    }

    private static void answers(String readme) throws Exception {
        Matcher example = EXAMPLE.matcher(readme);
        C.due("an example in README.md", example.find() ? 1 : 0, 1);
        TreeSet<String> unnamed = new TreeSet<>();
        for (Method m : CradleHour.class.getDeclaredMethods()) {
            if (Modifier.isPublic(m.getModifiers())) {
                unnamed.add(m.getName());
            }
        }
        CradleHour x = new CradleHour();
        for (String line : example.group(1).split("\n")) {
            Matcher call = CALL.matcher(line);
            Matcher text = TEXT.matcher(line);
            if (call.matches()) {
                unnamed.remove(call.group(1));
                C.due("README.md: " + line, answer(x, call.group(1), call.group(2)), Long.parseLong(call.group(3)));
            } else if (text.matches()) {
                unnamed.remove("say");
                Checks.say(x, text.group(1));
            } else {
                C.due("README.md, a line that is not tried: " + line, isFrame(line) ? 1 : 0, 1);
            }
        }
        C.due("calls without an example: " + unnamed, unnamed.size(), 0);
    }

    /** Lines that answer nothing: a heading, the new object, the loop that says a text. */
    private static boolean isFrame(String line) {
        return line.isEmpty() || line.equals("}") || line.startsWith("// ") || line.startsWith("    x.say(sign);")
            || line.equals("CradleHour x = new CradleHour();");
    }

    private static long answer(CradleHour x, String name, String arguments) throws Exception {
        String[] words = arguments.isEmpty() ? new String[0] : arguments.split(", ");
        for (Method m : CradleHour.class.getMethods()) {
            Class<?>[] types = m.getParameterTypes();
            if (m.getName().equals(name) && types.length == words.length) {
                Object[] values = new Object[types.length];
                for (int k = 0; k < types.length; k++) {
                    if (types[k] == boolean.class) {
                        values[k] = Boolean.valueOf(words[k]);
                    } else {
                        values[k] = Integer.valueOf(words[k]);
                    }
                }
                return ((Number) m.invoke(x, values)).longValue();
            }
        }
        throw new IllegalStateException("README.md: there is no call " + name + "(" + arguments + ")");
    }

    private static void files(String readme) throws Exception {
        TreeSet<String> named = new TreeSet<>();
        Matcher m = TEST_FILE.matcher(readme);
        while (m.find()) {
            named.add(m.group());
        }
        TreeSet<String> here = new TreeSet<>();
        try (DirectoryStream<Path> files = Files.newDirectoryStream(Path.of("src/test/java"), "*.java")) {
            for (Path file : files) {
                here.add("src/test/java/" + file.getFileName());
            }
        }
        C.due("README.md names " + named + ", here are " + here, named.equals(here) ? 1 : 0, 1);
        C.due("README.md names .ci/run", readme.contains("    .ci/run\n") ? 1 : 0, 1);
        C.due(".ci/run can be run", Files.isExecutable(Path.of(".ci/run")) ? 1 : 0, 1);
    }
}
