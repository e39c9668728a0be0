import java.nio.file.Files;
import java.nio.file.Path;
import java.util.List;
import java.util.regex.Matcher;
import java.util.regex.Pattern;

/** What of LANGUAGE.md can be seen by reading src/main/java/OddsSolver.java as a text, from the project's folder. */
public final class LanguageTests {
    private static final String[] FORBIDDEN = {
        "->", "::", "\\bsynchronized\\b", "\\bassert\\b", "\\bfinally\\b", "\\bcatch\\b", "\\btry\\b", "\\bpackage\\b",
        "\\bgetMessage\\b", "\\bhashCode\\b", "\\btoString\\b", "Exact\\b", "\\bThread\\b", "\\bRandom\\b",
        "\\bjava\\.(io|nio|net|time)\\b", "System\\.(?!arraycopy\\b)", "\\bvolatile\\b", "\\bnative\\b",
        "Arrays\\.(?!fill\\b|copyOf\\b|copyOfRange\\b)", "Math\\.(?!min\\b|max\\b|abs\\b|floorMod\\b|floorDiv\\b)",
        "\\bclone\\b", "\\bvar\\b", "\\bdouble\\b", "\\bfloat\\b", "\" \\+|\\+ \"", "^import (?!java\\.util\\.)"};

    public static void main(String[] args) throws Exception {
        List<String> lines = Files.readAllLines(Path.of("src/main/java/OddsSolver.java"));
        for (int k = 0; k < lines.size(); k++) {
            readLine(k + 1, lines.get(k).replaceAll("/\\*\\*.*|^ *\\*.*|//.*", ""));
        }
        readMethods(lines);
        readMakers(lines);
        Check.close();
    }

    private static void readLine(int number, String line) {
        for (String pattern : FORBIDDEN) {
            Check.due("line " + number + " has no " + pattern, Pattern.compile(pattern).matcher(line).find() ? 1 : 0, 0);
        }
        Matcher thrown = Pattern.compile("throw new (\\w+)\\(").matcher(line);
        if (thrown.find()) {
            boolean known = thrown.group(1).matches("IllegalStateException|IllegalArgumentException|NoSuchElementException");
            Check.due("line " + number + " throws what the document names", known ? 1 : 0, 1);
        }
        for (int k = 0; k < line.length(); k++) {
            Check.due("line " + number + " has plain signs", line.charAt(k) < 128 ? 1 : 0, 1);
        }
    }

    /** Rows and objects are made in fields' initialisers and in the constructor alone; a call makes exceptions alone. */
    private static void readMakers(List<String> lines) {
        Pattern maker = Pattern.compile("\\bnew\\b|List\\.of\\b|\\bcopyOf|\\.values\\(|\\.clone\\(|\\bsubstring\\b|\\btoCharArray\\b");
        boolean constructing = false;
        for (int k = 0; k < lines.size(); k++) {
            String line = lines.get(k).replaceAll("/\\*\\*.*|^ *\\*.*|//.*|\"[^\"]*\"|'.'", "");
            constructing = line.matches("    public OddsSolver\\(\\) \\{") || constructing && !line.equals("    }");
            boolean field = line.matches("( {4}| {8})(private |static |final )+\\w+(\\[\\])* \\w+ = new \\w+.*;");
            boolean thrown = line.matches(" *throw new \\w+\\(.*\\);");
            if (maker.matcher(line).find()) {
                Check.due("line " + (k + 1) + " makes nothing in a call", field || thrown || constructing ? 1 : 0, 1);
            }
        }
    }

    /** A method begins with a line that ends in "{" and has parameters, and ends at the same indent. */
    private static void readMethods(List<String> lines) {
        Pattern begin = Pattern.compile("^( {4,8})(?!if|for|while|switch|\\}|return)\\S.*\\(.*|^( {4,8})public OddsSolver\\(\\) \\{");
        for (int k = 0; k < lines.size(); k++) {
            Matcher matcher = begin.matcher(lines.get(k));
            boolean opens = lines.get(k).endsWith("{") || k + 1 < lines.size() && lines.get(k + 1).endsWith("{");
            if (matcher.matches() && opens && !lines.get(k).endsWith(";")) {
                String end = lines.get(k).replaceAll("\\S.*", "") + "}";
                int to = k;
                while (!lines.get(to).equals(end)) {
                    to++;
                }
                Check.due("the method in line " + (k + 1) + " is short", to - k <= 60 ? 1 : 0, 1);
            }
        }
    }
}
