import java.io.IOException;
import java.nio.file.DirectoryStream;
import java.nio.file.Files;
import java.nio.file.Path;
import java.util.Set;
import java.util.TreeSet;
import java.util.regex.Matcher;
import java.util.regex.Pattern;

/** That the tests of bounds name every promise, that each of their methods is run, and none stands without a sentence. */
public final class SentenceTests {
    private static final int PROMISES = 26;
    private static final Pattern METHOD = Pattern.compile("\n    private static void (\\w+)\\(\\) \\{\n(.*?)\n    \\}\n", Pattern.DOTALL);

    public static void main(String[] args) throws IOException {
        Set<Integer> named = new TreeSet<>();
        int methods = 0;
        try (DirectoryStream<Path> files = Files.newDirectoryStream(Path.of("src/test/java"), "Bound*.java")) {
            for (Path file : files) {
                String text = Files.readString(file);
                String main = text.substring(text.indexOf("void main("), text.indexOf("Check.close();"));
                for (Matcher method = METHOD.matcher(text); method.find();) {
                    methods++;
                    String name = file.getFileName() + ", " + method.group(1);
                    Check.due(name + " is run", main.contains("        " + method.group(1) + "();\n") ? 1 : 0, 1);
                    Check.due(name + " tells its sentence first", method.group(2).startsWith("        Check.by(\"") ? 1 : 0, 1);
                }
                for (Matcher promise = Pattern.compile("Check\\.by\\(\"Promise (\\d+)").matcher(text); promise.find();) {
                    named.add(Integer.parseInt(promise.group(1)));
                }
            }
        }
        for (int k = 1; k <= PROMISES; k++) {
            Check.due("promise " + k + " is named", named.contains(k) ? 1 : 0, 1);
        }
        Check.due("no other is", named.size(), PROMISES);
        Check.due("there are methods", methods > 100 ? 1 : 0, 1);
        Check.close();
    }
}
