import java.io.IOException;
import java.lang.reflect.InvocationTargetException;
import java.lang.reflect.Method;
import java.nio.file.DirectoryStream;
import java.nio.file.Files;
import java.nio.file.Path;
import java.util.regex.Matcher;
import java.util.regex.Pattern;

/** Makes the calls of the examples in README.md, and compares the answers with those that stand behind them. */
public final class ReadmeTests {
    private static final Path README = Path.of("README.md");
    private static final Path TESTS = Path.of("src", "test", "java");
    private static final String MAKE = "SondeStations x = new SondeStations();";
    private static final Pattern TYPE = Pattern.compile(
            "for \\(char c : \"([^\"]*)\"\\.toCharArray\\(\\)\\) \\{ x\\.append\\(c\\); \\}");
    private static final Pattern CALL = Pattern.compile(
            "x\\.(\\w+)\\(([-0-9L, ]*)\\); +// (throws \\w+|-?\\d+): .*");
    private static final int FEWEST_CALLS = 20;

    private SondeStations x;
    private int calls = 0;

    private ReadmeTests() {
    }

    public static void main(String[] args) throws IOException {
        String readme = Files.readString(README);
        new ReadmeTests().examples(readme);
        namesAllTests(readme);
        Check.end("ReadmeTests");
    }

    private void examples(String readme) {
        boolean inExample = false;
        for (String row : readme.split("\n")) {
            if (row.startsWith("```")) {
                inExample = row.equals("```java");
            } else if (inExample) {
                example(row);
            }
        }
        Check.same("README.md has examples", "" + (calls >= FEWEST_CALLS), "true");
    }

    private void example(String row) {
        Matcher type = TYPE.matcher(row);
        Matcher call = CALL.matcher(row);
        if (row.equals(MAKE)) {
            x = new SondeStations();
        } else if (type.matches() && x != null) {
            type.group(1).chars().forEach(c -> x.append(c));
        } else if (call.matches() && x != null) {
            calls++;
            Check.same("README.md, " + row, answer(call.group(1), call.group(2)), call.group(3));
        } else {
            Check.same("README.md, a row that is no call with its answer, " + row, "", "a call");
        }
    }

    private String answer(String name, String arguments) {
        String[] told = arguments.isEmpty() ? new String[0] : arguments.split(", ");
        try {
            return "" + methodOf(name, told.length).invoke(x, values(methodOf(name, told.length), told));
        } catch (InvocationTargetException e) {
            return "throws " + e.getCause().getClass().getSimpleName();
        } catch (ReflectiveOperationException e) {
            return "there is no such call";
        }
    }

    private static Method methodOf(String name, int arguments) throws NoSuchMethodException {
        for (Method method : SondeStations.class.getMethods()) {
            if (method.getName().equals(name) && method.getParameterCount() == arguments) {
                return method;
            }
        }
        throw new NoSuchMethodException(name);
    }

    private static Object[] values(Method method, String[] told) {
        Object[] values = new Object[told.length];
        for (int k = 0; k < told.length; k++) {
            boolean isLong = method.getParameterTypes()[k] == long.class;
            long value = Long.parseLong(told[k].replace("L", ""));
            values[k] = isLong ? (Object) value : (Object) Math.toIntExact(value);
        }
        return values;
    }

    private static void namesAllTests(String readme) throws IOException {
        try (DirectoryStream<Path> files = Files.newDirectoryStream(TESTS, "*Tests.java")) {
            for (Path file : files) {
                String name = file.getFileName().toString().replace(".java", "");
                Check.same("README.md names " + name, "" + readme.contains("`" + name + "`"), "true");
            }
        }
    }
}
