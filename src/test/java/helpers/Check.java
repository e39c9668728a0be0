import java.io.IOException;
import java.nio.charset.StandardCharsets;
import java.nio.file.Files;
import java.nio.file.Path;
import java.util.function.LongSupplier;

/** What all tests share: telling texts, and comparing answers with what is due. */
final class Check {
    private static int wrong = 0;
    private static int asked = 0;
    private static int sentences = 0;
    private static String sentence = "";
    private static String document = "";

    private Check() {
    }

    /** The promise, and the words of the document (" .. " where some are left out), that the next answers are due by. */
    static void by(String promise, String words) {
        sentences++;
        sentence = promise + " \"" + words + "\": ";
        for (String piece : words.split(" \\.\\. ")) {
            compare("the document has \"" + piece + "\"", documentHas(piece) ? "1" : "0", "1");
        }
    }

    private static boolean documentHas(String words) {
        try {
            document = document.isEmpty() ? Files.readString(Path.of("../shared/DOC.md")) : document;
        } catch (IOException e) {
            return false;
        }
        return document.contains(words);
    }

    private static void compare(String call, String got, String want) {
        asked++;
        if (!got.equals(want)) {
            wrong++;
            if (wrong <= 50) {
                System.out.println(sentence + call + " answered " + got + ", due is " + want);
            }
        }
    }

    static void due(String call, long got, long want) {
        compare(call, Long.toString(got), Long.toString(want));
    }

    /** The answer of a call, or the exception's name if it throws. */
    static String answerOf(LongSupplier call) {
        try {
            return Long.toString(call.getAsLong());
        } catch (RuntimeException e) {
            return e.getClass().getSimpleName();
        }
    }

    static void due(String call, LongSupplier got, String want) {
        compare(call, answerOf(got), want);
    }

    static void same(String call, String got, String want) {
        compare(call, got, want);
    }

    static void due(String call, LongSupplier got, long want) {
        due(call, got, Long.toString(want));
    }

    static void noElement(String call, LongSupplier got) {
        due(call, got, "NoSuchElementException");
    }

    static void noArgument(String call, LongSupplier got) {
        due(call, got, "IllegalArgumentException");
    }

    static void noState(String call, LongSupplier got) {
        due(call, got, "IllegalStateException");
    }

    static void feed(OddsSolver x, String text) {
        byte[] bytes = text.getBytes(StandardCharsets.ISO_8859_1);
        for (int from = 0; from < bytes.length; from += 20) {
            int[] numbers = new int[5];
            for (int k = 0; k < 20; k++) {
                int b = from + k < bytes.length ? bytes[from + k] & 255 : '?';
                numbers[k / 4] = numbers[k / 4] << 8 | b;
            }
            x.feed(numbers[0], numbers[1], numbers[2], numbers[3], numbers[4]);
        }
    }

    /** The TAPE is empty ahead of it. */
    static int tell(OddsSolver x, String text) {
        feed(x, text);
        return x.text(text.length());
    }

    static OddsSolver solverOf(String text) {
        OddsSolver x = new OddsSolver();
        int answer = tell(x, text);
        if (answer < 0) {
            due("text of " + text, answer, 0);
        }
        return x;
    }

    static void close() {
        String by = sentences > 0 ? " by " + sentences + " sentences" : "";
        System.out.println(asked + " answers asked for" + by + ", " + wrong + " not as due");
        if (wrong != 0) {
            System.exit(1);
        }
    }
}
