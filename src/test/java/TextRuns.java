import java.util.Random;

/** Random texts, good ones and marred ones: the count of STATEMENTS or the FAULT, and its place. */
public final class TextRuns {
    private static final String[] PIECES = {
        "a", "b", "f", "g", "ab", "draw", "flip", "if", "while", "observe", "stop", "else", "=", "<", "#", "+", "-",
        ";", "{", "}", " ", "  ", "0", "1", "2", "7", "9", "10", "60", "61", "06", "100", "*", "A", "\n", "\u00e9",
        "a=1;", "stop;", "flip 3{", "if a=b{", "while a<1{", "}else{", "draw c 4;", "4294967297"};
    private static final int[] SEEN = new int[4];

    public static void main(String[] args) {
        int texts = args.length > 0 ? Integer.parseInt(args[0]) : 60000;
        Random random = new Random(7);
        OddsSolver x = new OddsSolver();
        for (int k = 0; k < texts; k++) {
            String text = randomText(random);
            // a text takes up to 24 calls, and an object serves 512
            x = k % 20 == 0 ? new OddsSolver() : x;
            if (text.length() <= 400) {
                compare(x, text);
            }
        }
        for (int kind = 0; kind < 4; kind++) {
            System.out.println(SEEN[kind] + (kind == 0 ? " without a fault" : " of fault " + kind));
            Check.due("texts of kind " + kind, SEEN[kind] > 100 ? 1 : 0, 1);
        }
        Check.close();
    }

    private static void compare(OddsSolver x, String text) {
        TextOracle oracle = new TextOracle(text);
        int before = x.told(0);
        int answer = Check.tell(x, text);
        SEEN[oracle.fault]++;
        Check.due("text of " + text, answer, oracle.fault == 0 ? oracle.statements : oracle.fault - 10);
        Check.due("fault of " + text, x.fault(), oracle.place);
        Check.due("statements behind " + text, x.told(0), oracle.fault == 0 ? oracle.statements : before);
    }

    private static String randomText(Random random) {
        int how = random.nextInt(8);
        if (how == 0) {
            return pieces(random, 1 + random.nextInt(8));
        }
        StringBuilder text = new StringBuilder();
        if (how == 1) {
            text.append("flip 1{".repeat(4 + random.nextInt(3)));
        } else if (how == 2) {
            text.append("a=1;".repeat(34 + random.nextInt(8)));
        }
        int variables = 1 + random.nextInt(6);
        text.append(Model.textOf(Model.randomNodes(random, 8, how == 1 ? 3 : 7, variables)));
        if (how == 1) {
            text.append("}".repeat(4 + random.nextInt(3)));
        }
        int marks = random.nextInt(3);
        for (int k = 0; k < marks; k++) {
            mar(random, text);
        }
        return text.toString();
    }

    private static String pieces(Random random, int count) {
        StringBuilder text = new StringBuilder();
        for (int k = 0; k < count; k++) {
            text.append(PIECES[random.nextInt(PIECES.length)]);
        }
        return text.toString();
    }

    private static void mar(Random random, StringBuilder text) {
        int at = random.nextInt(text.length() + 1);
        switch (random.nextInt(4)) {
            case 0:
                text.insert(at, PIECES[random.nextInt(PIECES.length)]);
                break;
            case 1:
                text.delete(at, Math.min(text.length(), at + 1 + random.nextInt(3)));
                break;
            case 2:
                text.setLength(at);
                break;
            default:
                text.insert(at, " ");
        }
    }
}
