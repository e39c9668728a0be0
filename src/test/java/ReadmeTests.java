import java.io.IOException;
import java.lang.reflect.Method;
import java.nio.file.DirectoryStream;
import java.nio.file.Files;
import java.nio.file.Path;
import java.util.regex.Matcher;
import java.util.regex.Pattern;

/** What README.md tells of the class: its example answers so, its tables name every test and every class inside. */
public final class ReadmeTests {
    private static final Pattern CALL = Pattern.compile("^x\\.(\\w+)\\(([^)]*)\\);(?: +// (-?\\d+)\\b.*)?$", Pattern.MULTILINE);

    public static void main(String[] args) throws IOException, ReflectiveOperationException {
        String readme = Files.readString(Path.of("README.md"));
        int from = readme.indexOf("```java\n");
        runExample(readme.substring(from, readme.indexOf("```\n", from)));
        try (DirectoryStream<Path> tests = Files.newDirectoryStream(Path.of("src/test/java"), "*.java")) {
            for (Path test : tests) {
                isNamed(readme, test.getFileName().toString().replace(".java", ""));
            }
        }
        for (Class<?> inside : OddsSolver.class.getDeclaredClasses()) {
            isNamed(readme, inside.getSimpleName());
        }
        Check.due("README.md tells how tests are run", readme.contains("`.ci/run`") ? 1 : 0, 1);
        Check.close();
    }

    private static void runExample(String example) throws ReflectiveOperationException {
        OddsSolver x = new OddsSolver();
        int answers = 0;
        for (Matcher call = CALL.matcher(example); call.find();) {
            String[] written = call.group(2).isEmpty() ? new String[0] : call.group(2).split(", *");
            Object[] numbers = new Object[written.length];
            for (int k = 0; k < written.length; k++) {
                numbers[k] = written[k].equals("OddsSolver.NONE") ? OddsSolver.NONE : Integer.decode(written[k]);
            }
            Number got = (Number) methodOf(call.group(1)).invoke(x, numbers);
            if (call.group(3) != null) {
                answers++;
                Check.due("README.md: " + call.group(), got.longValue(), Long.parseLong(call.group(3)));
            }
        }
        Check.due("the example tells answers", answers >= 5 ? 1 : 0, 1);
    }

    private static Method methodOf(String name) throws NoSuchMethodException {
        for (Method method : OddsSolver.class.getMethods()) {
            if (method.getName().equals(name)) {
                return method;
            }
        }
        throw new NoSuchMethodException(name);
    }

    private static void isNamed(String readme, String name) {
        boolean named = Pattern.compile("^\\| ([\\w, ]*, )?" + name + "(, [\\w, ]*)? \\|", Pattern.MULTILINE).matcher(readme).find();
        Check.due("a table of README.md names " + name, named ? 1 : 0, 1);
    }
}
