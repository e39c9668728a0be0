import java.util.Arrays;
import java.util.Map;
import java.util.Random;
import java.util.TreeMap;

/**
 * Random runs of 512 calls each, right and wrong ones, with arguments at their bounds and beyond; every answer, and
 * every exception, is compared with the twin's.
 */
public final class CallRuns {
    private static final int[] FAR_OUT = {Integer.MIN_VALUE, -1000, -2, 1000, Integer.MAX_VALUE};
    private static final Map<String, Integer> SEEN = new TreeMap<>();

    private final Random random;
    private final OddsSolver x = new OddsSolver();
    private final Twin twin = new Twin();
    private final StringBuilder made = new StringBuilder();
    private String pending = "";
    /** What is asked for the arguments' sake is asked of the twin: so each of these calls is compared. */
    private int left = 512;

    private CallRuns(Random random) {
        this.random = random;
    }

    public static void main(String[] args) {
        int runs = args.length > 0 ? Integer.parseInt(args[0]) : 150;
        long seed = args.length > 1 ? Long.parseLong(args[1]) : 1;
        for (int k = 0; k < runs; k++) {
            new CallRuns(new Random(seed * 7919 + k)).go();
        }
        int refused = 0;
        for (Map.Entry<String, Integer> seen : SEEN.entrySet()) {
            refused += seen.getKey().endsWith("Exception") ? seen.getValue() : 0;
        }
        System.out.println(runs + " runs, " + refused + " calls of them refused");
        String[] kinds = {"NoSuchElementException", "IllegalArgumentException", "IllegalStateException", "answer"};
        for (String call : Twin.CALLS) {
            Check.due("calls of " + call, SEEN.getOrDefault(call + " answer", 0) > runs ? 1 : 0, 1);
        }
        for (String kind : kinds) {
            Check.due("some " + kind, SEEN.containsKey("state " + kind) ? 1 : 0, 1);
            Check.due("some " + kind, SEEN.containsKey("value " + kind) ? 1 : 0, 1);
        }
        Check.close();
    }

    private void go() {
        while (left > 0) {
            if (random.nextInt(40) == 0) {
                tell();
            } else {
                String call = Twin.CALLS[1 + random.nextInt(Twin.CALLS.length - 1)];
                compare(call, arguments(call));
            }
        }
    }

    private void tell() {
        String text = randomText();
        for (int from = 0; from < text.length(); from += 20) {
            int[] numbers = new int[5];
            for (int k = 0; k < 20; k++) {
                int b = from + k < text.length() ? text.charAt(from + k) : ' ';
                numbers[k / 4] = numbers[k / 4] << 8 | b;
            }
            compare("feed", numbers);
        }
        compare("told", new int[] {6});
        compare("text", new int[] {random.nextInt(8) == 0 ? random.nextInt(402) : text.length()});
    }

    private String randomText() {
        int how = random.nextInt(10);
        if (how == 0) {
            return Programs.chain(199 + random.nextInt(3));
        }
        if (how == 1) {
            return Programs.states(198 + random.nextInt(4));
        }
        if (how == 2) {
            return random.nextBoolean() ? Programs.SINGULAR : Programs.NO_ENDED;
        }
        String text = "";
        do {
            text = Model.textOf(Model.randomNodes(random, 6, 3, 1 + random.nextInt(6)));
        } while (text.length() > 400);
        if (how == 3 && !text.isEmpty()) {
            int at = random.nextInt(text.length());
            return text.substring(0, at) + (char) random.nextInt(256) + text.substring(at + 1);
        }
        return text;
    }

    private int near(int least, int most) {
        int how = random.nextInt(30);
        if (how == 0) {
            return FAR_OUT[random.nextInt(FAR_OUT.length)];
        }
        if (how <= 2) {
            return how == 1 ? least - 1 : most + 1;
        }
        return how == 3 ? most : least + random.nextInt(most - least + 1);
    }

    private int askTwin(String call, int... a) {
        return Integer.parseInt(twin.answer(call, a));
    }

    private int stateNumber() {
        return near(0, Math.max(0, askTwin("told", 1) - 1));
    }

    private int statementNumber() {
        return near(0, Math.max(0, askTwin("told", 0) - 1));
    }

    /** The first flip behind some STATEMENT, if there is one. */
    private int flipNumber() {
        int statements = askTwin("told", 0);
        int k = statements > 0 ? random.nextInt(statements) : 0;
        while (k < statements && askTwin("statement", k, 0) != 2) {
            k++;
        }
        return k;
    }

    private int[] arguments(String call) {
        switch (call) {
            case "text": return new int[] {near(0, 400)};
            case "first": return new int[] {near(0, 5), near(0, 9)};
            case "chance": return new int[] {random.nextInt(3) == 0 ? statementNumber() : flipNumber(), near(0, 60)};
            case "told": return new int[] {near(0, 7)};
            case "statement": return new int[] {statementNumber(), near(0, 4)};
            case "firstOf": return new int[] {near(0, 5)};
            case "state": return new int[] {stateNumber(), near(0, 9)};
            case "arc": return new int[] {stateNumber(), near(0, 1), near(0, 1)};
            case "total": return new int[] {near(0, 2), near(0, 2)};
            case "value": return new int[] {near(0, 5), near(0, 9), near(0, 2)};
            case "both": return new int[] {near(0, 5), near(0, 9), near(0, 5), near(0, 9), near(0, 2)};
            case "mean": return new int[] {near(0, 5), near(0, 2)};
            case "independent": return new int[] {near(0, 5), near(0, 5)};
            case "visits": return new int[] {stateNumber(), near(0, 2)};
            case "steps": return new int[] {near(0, 2)};
            case "within": return new int[] {near(0, 200), near(0, 2)};
            case "classes": return new int[] {near(0, 5)};
            case "classOf": return new int[] {near(0, 5), stateNumber()};
            case "run": return new int[] {near(-1, 9)};
            case "status": return new int[] {near(0, 2)};
            default: return new int[0];
        }
    }

    private void compare(String call, int[] a) {
        if (left <= 0) {
            return;
        }
        left--;
        pending = call + Arrays.toString(a);
        String got = Check.answerOf(() -> made(call, a));
        String due = twin.answer(call, a);
        if (!due.equals(Twin.OPEN)) {
            Check.same(pending + (got.equals(due) ? "" : " behind " + made), got, due);
            SEEN.merge(call + " " + (due.endsWith("Exception") ? due : "answer"), 1, Integer::sum);
        }
        made.append(pending).append(' ');
    }

    private long made(String call, int[] a) {
        switch (call) {
            case "feed": return x.feed(a[0], a[1], a[2], a[3], a[4]);
            case "text": return x.text(a[0]);
            case "fault": return x.fault();
            case "first": return x.first(a[0], a[1]);
            case "chance": return x.chance(a[0], a[1]);
            case "undo": return x.undo();
            case "told": return x.told(a[0]);
            case "statement": return x.statement(a[0], a[1]);
            case "firstOf": return x.firstOf(a[0]);
            case "state": return x.state(a[0], a[1]);
            case "arc": return x.arc(a[0], a[1], a[2]);
            case "total": return x.total(a[0], a[1]);
            case "value": return x.value(a[0], a[1], a[2]);
            case "both": return x.both(a[0], a[1], a[2], a[3], a[4]);
            case "mean": return x.mean(a[0], a[1]);
            case "independent": return x.independent(a[0], a[1]);
            case "visits": return x.visits(a[0], a[1]);
            case "steps": return x.steps(a[0]);
            case "within": return x.within(a[0], a[1]);
            case "classes": return x.classes(a[0]);
            case "classOf": return x.classOf(a[0], a[1]);
            case "run": return x.run(a[0]);
            case "worth": return x.worth();
            case "print": return x.print();
            default: return x.status(a[0]);
        }
    }
}
