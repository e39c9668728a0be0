import java.io.File;
import java.io.IOException;
import java.nio.file.Files;
import java.nio.file.Path;
import java.util.ArrayList;
import java.util.List;
import java.util.concurrent.ExecutorService;
import java.util.concurrent.Executors;
import java.util.concurrent.Future;
import java.util.concurrent.TimeUnit;
import java.util.regex.Matcher;
import java.util.regex.Pattern;
import java.util.stream.Stream;

/**
 * Breaks the class in one place at a time and prints what no test of bounds notices. Not part of .ci/run: on eight
 * cores it takes 16 minutes. From the project's folder: java src/tools/Mutants.java [first line] [last line]
 */
public final class Mutants {
    private static final String[][] CHANGES = {
        {"(?<![<>=])<(?![<=])", "<="}, {"<=", "<"}, {"(?<![>\\-=])>(?![>=])", ">="}, {"(?<!>)>=", ">"}, {"==", "!="},
        {"!=", "=="}, {"&&", "||"}, {"\\|\\|", "&&"}, {"(?<= )\\+(?= )", "-"}, {"(?<= )-(?= )", "+"}, {"\\btrue\\b", "false"},
        {"\\bfalse\\b", "true"}, {"\\+=", "-="}, {"(?<=[^.])\\bcount\\+\\+", "count += 2"}};
    private static final Pattern NUMBER = Pattern.compile("(?<![\\w.])\\d{1,8}(?![\\w.])");
    private static final Pattern TEST = Pattern.compile("^(\\s*(?:\\} else )?if \\()(.*)(\\) \\{)$");
    private static final Pattern DELETED = Pattern.compile("^\\s*(?!return|private|public|static|final|int |long |boolean |throw|\\})\\S.*;$");

    private record Mutant(int line, String text) {
    }

    private static Path folder;
    private static List<String> lines;

    public static void main(String[] args) throws Exception {
        Path source = Path.of("src/main/java/OddsSolver.java");
        lines = Files.readAllLines(source);
        int first = args.length > 0 ? Integer.parseInt(args[0]) : 1;
        int last = args.length > 1 ? Integer.parseInt(args[1]) : lines.size();
        folder = Files.createTempDirectory("mutants");
        compileTests();
        List<Mutant> mutants = new ArrayList<>();
        for (int k = Math.max(1, first); k <= Math.min(last, lines.size()); k++) {
            addMutants(k, lines.get(k - 1), mutants);
        }
        ExecutorService workers = Executors.newFixedThreadPool(Runtime.getRuntime().availableProcessors());
        List<Future<Boolean>> noticed = new ArrayList<>();
        for (int k = 0; k < mutants.size(); k++) {
            int number = k;
            noticed.add(workers.submit(() -> isNoticed(mutants.get(number), number)));
        }
        int left = 0;
        for (int k = 0; k < mutants.size(); k++) {
            if (!noticed.get(k).get()) {
                left++;
                int line = mutants.get(k).line;
                System.out.println(line + ": " + lines.get(line - 1).trim() + "\n    " + mutants.get(k).text.trim());
            }
        }
        workers.shutdown();
        System.out.println(left + " of " + mutants.size() + " are not noticed");
    }

    private static void addMutants(int number, String line, List<Mutant> mutants) {
        if (line.matches("\\s*(\\*|/\\*|import|//).*")) {
            return;
        }
        for (String[] change : CHANGES) {
            for (Matcher found = Pattern.compile(change[0]).matcher(line); found.find();) {
                mutants.add(new Mutant(number, line.substring(0, found.start()) + change[1] + line.substring(found.end())));
            }
        }
        for (Matcher found = NUMBER.matcher(line); found.find();) {
            for (int by = -1; by <= 1; by += 2) {
                int changed = Integer.parseInt(found.group()) + by;
                mutants.add(new Mutant(number, line.substring(0, found.start()) + changed + line.substring(found.end())));
            }
        }
        Matcher test = TEST.matcher(line);
        if (test.matches()) {
            mutants.add(new Mutant(number, test.group(1) + "Math.abs(1) == 1" + test.group(3)));
            mutants.add(new Mutant(number, test.group(1) + "Math.abs(1) == 2" + test.group(3)));
        }
        if (DELETED.matcher(line).matches()) {
            mutants.add(new Mutant(number, ""));
        }
    }

    /** All tests of bounds behind one main; the class itself is taken from each mutant's own folder. */
    private static void compileTests() throws Exception {
        List<String> command = new ArrayList<>(List.of("javac", "-nowarn", "-d", folder + "/tests", "src/main/java/OddsSolver.java"));
        StringBuilder main = new StringBuilder("final class All { public static void main(String[] args) {");
        for (String from : new String[] {"src/test/java", "src/test/java/helpers"}) {
            try (Stream<Path> files = Files.list(Path.of(from))) {
                for (Path file : (Iterable<Path>) files::iterator) {
                    String name = file.getFileName().toString();
                    if (from.endsWith("helpers") || name.startsWith("Bound")) {
                        command.add(file.toString());
                    }
                    main.append(name.startsWith("Bound") ? name.replace(".java", ".main(args);") : "");
                }
            }
        }
        Files.writeString(folder.resolve("All.java"), main + "}}");
        command.add(folder + "/All.java");
        if (run(command, 120) != 0) {
            throw new IllegalStateException("the tests do not compile");
        }
        for (File file : folder.resolve("tests").toFile().listFiles((in, name) -> name.startsWith("OddsSolver"))) {
            Files.delete(file.toPath());
        }
    }

    /** What does not compile, fails, or does not end in time. */
    private static boolean isNoticed(Mutant mutant, int number) throws Exception {
        Path own = Files.createDirectory(folder.resolve("m" + number));
        List<String> changed = new ArrayList<>(lines);
        changed.set(mutant.line - 1, mutant.text);
        Files.write(own.resolve("OddsSolver.java"), changed);
        boolean compiled = run(List.of("javac", "-nowarn", "-d", own.toString(), own + "/OddsSolver.java"), 60) == 0;
        String path = own + File.pathSeparator + folder + "/tests";
        return !compiled || run(List.of("java", "-XX:TieredStopAtLevel=1", "-cp", path, "All"), 60) != 0;
    }

    private static int run(List<String> command, int seconds) throws IOException, InterruptedException {
        ProcessBuilder builder = new ProcessBuilder(command);
        builder.redirectErrorStream(true).redirectOutput(ProcessBuilder.Redirect.DISCARD);
        Process process = builder.start();
        if (process.waitFor(seconds, TimeUnit.SECONDS)) {
            return process.exitValue();
        }
        process.destroyForcibly();
        return 1;
    }
}
