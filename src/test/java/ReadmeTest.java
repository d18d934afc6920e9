import java.io.File;
import java.lang.reflect.Method;
import java.lang.reflect.Modifier;
import java.nio.charset.StandardCharsets;
import java.nio.file.Files;
import java.util.ArrayList;
import java.util.List;
import java.util.regex.Matcher;
import java.util.regex.Pattern;

/** README.md: its calls answer what it says, and it names all calls, refusals and tests. */
public final class ReadmeTest {
    private static final String[] CONSTANTS = {"NONE", "UNKNOWN", "OUTSIDE", "STATE", "FULL"};
    private static final String NEW = "SwallowedInTurn x = new SwallowedInTurn();";
    private static final Pattern CALL =
            Pattern.compile("x\\.(\\w+)\\(([^)]*)\\);\\s+// (-?\\d+|[A-Z]+)(?::.*)?");

    private final List<String> lines;
    private final String text;

    private ReadmeTest(List<String> lines) {
        this.lines = lines;
        text = String.join(" ", lines).replaceAll("\\s+", " ");
    }

    public static void main(String[] args) throws Exception {
        ReadmeTest readme = new ReadmeTest(Files.readAllLines(new File("README.md").toPath(), StandardCharsets.UTF_8));
        readme.itsCallsAnswerWhatItSays();
        readme.refusalsAreNamed();
        readme.theDocumentsWordsStand();
        readme.allCallsAreNamed();
        readme.allTestsAreNamed();
        Check.end();
    }

    private static long valueOf(String word) throws ReflectiveOperationException {
        if (word.matches("[A-Z]+")) {
            return SwallowedInTurn.class.getField(word).getInt(null);
        }
        return Long.parseLong(word);
    }

    private static int argument(String word) {
        return word.matches("'.'") ? word.charAt(1) : Integer.parseInt(word);
    }

    private static long answer(SwallowedInTurn x, String name, String words) throws ReflectiveOperationException {
        String[] split = words.isEmpty() ? new String[0] : words.split(", ");
        Class<?>[] types = new Class<?>[split.length];
        Object[] values = new Object[split.length];
        for (int i = 0; i < split.length; i++) {
            types[i] = int.class;
            values[i] = argument(split[i]);
        }
        return ((Number) SwallowedInTurn.class.getMethod(name, types).invoke(x, values)).longValue();
    }

    private void itsCallsAnswerWhatItSays() throws ReflectiveOperationException {
        Check.sentence("README.md: how an object is made and its calls are made, what a refused call answers");
        SwallowedInTurn x = new SwallowedInTurn();
        boolean isJava = false;
        int objects = 0;
        int calls = 0;
        for (String line : lines) {
            Matcher call = CALL.matcher(line);
            if (line.startsWith("```")) {
                isJava = line.equals("```java");
            } else if (isJava && line.equals(NEW)) {
                x = new SwallowedInTurn();
                objects++;
            } else if (isJava && call.matches()) {
                Check.due(line, answer(x, call.group(1), call.group(2)), valueOf(call.group(3)));
                calls++;
            } else if (isJava) {
                Check.due("a line without an answer: " + line, 1, 0);
            }
        }
        Check.due("some objects are made", objects > 0 ? 1 : 0, 1);
        Check.due("calls are made", calls > 10 ? 1 : 0, 1);
    }

    private void refusalsAreNamed() throws ReflectiveOperationException {
        Check.sentence("README.md: what a refused call answers (UNKNOWN, OUTSIDE, STATE, FULL)");
        for (String name : CONSTANTS) {
            long value = valueOf(name);
            boolean isTold = text.contains("| `" + name + "` | " + value + " |")
                    || text.contains("`" + name + "` (" + value + ")");
            Check.due(name + " is told with its value", isTold ? 1 : 0, 1);
        }
    }

    private void theDocumentsWordsStand() {
        Check.sentence("README.md: for how many calls an object is used, and how the tests are run");
        String[] words = {"change nothing", "at most 512 calls after it has been made", "bash .ci/run",
            "../shared/tests", "src/main/java/SwallowedInTurn.java"};
        for (String said : words) {
            Check.due("it says: " + said, text.contains(said) ? 1 : 0, 1);
        }
        Check.due(".ci/run stands", new File(".ci/run").isFile() ? 1 : 0, 1);
    }

    private void allCallsAreNamed() {
        Check.sentence("README.md: how .. its calls are made (all of them)");
        int named = 0;
        for (Method method : SwallowedInTurn.class.getMethods()) {
            if (method.getDeclaringClass() == SwallowedInTurn.class && !Modifier.isStatic(method.getModifiers())) {
                named++;
                Matcher row = Pattern.compile("`" + method.getName() + "\\(([^)]*)\\)`").matcher(text);
                int arguments = -1;
                // The same call may be named without its arguments, too.
                while (row.find()) {
                    String words = row.group(1);
                    arguments = Math.max(arguments, words.isEmpty() ? 0 : words.split(", ").length);
                }
                Check.due("arguments of " + method.getName(), arguments, method.getParameterCount());
            }
        }
        Check.due("calls of the face", named, 25);
    }

    private void allTestsAreNamed() {
        Check.sentence("README.md: how the tests are run (all of them)");
        List<String> stand = new ArrayList<>();
        for (String file : new File("src/test/java").list()) {
            if (file.endsWith("Test.java")) {
                String name = file.substring(0, file.length() - ".java".length());
                stand.add(name);
                Check.due(name + " is named", text.contains("`" + name + "`") ? 1 : 0, 1);
            }
        }
        Matcher named = Pattern.compile("`(\\w+Test)`").matcher(text);
        while (named.find()) {
            Check.due(named.group(1) + " stands", stand.contains(named.group(1)) ? 1 : 0, 1);
        }
    }
}
