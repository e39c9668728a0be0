import java.nio.charset.StandardCharsets;
import java.util.function.LongSupplier;

/** What all tests share: telling texts, and comparing answers with what is due. */
final class Check {
    private static int wrong = 0;
    private static int asked = 0;

    private Check() {
    }

    static void due(String call, long got, long want) {
        asked++;
        if (got != want) {
            wrong++;
            if (wrong <= 50) {
                System.out.println(call + " answered " + got + ", due is " + want);
            }
        }
    }

    /** The answer of a call, or the exception's name if it throws. */
    static String answerOf(LongSupplier call) {
        try {
            return Long.toString(call.getAsLong());
        } catch (RuntimeException e) {
            return e.getClass().getSimpleName();
        }
    }

    static void due(String call, LongSupplier got, String want) {
        asked++;
        String answer = answerOf(got);
        if (!answer.equals(want)) {
            wrong++;
            if (wrong <= 50) {
                System.out.println(call + " answered " + answer + ", due is " + want);
            }
        }
    }

    static void due(String call, LongSupplier got, long want) {
        due(call, got, Long.toString(want));
    }

    static void noElement(String call, LongSupplier got) {
        due(call, got, "NoSuchElementException");
    }

    static void noArgument(String call, LongSupplier got) {
        due(call, got, "IllegalArgumentException");
    }

    static void noState(String call, LongSupplier got) {
        due(call, got, "IllegalStateException");
    }

    static void feed(OddsSolver x, String text) {
        byte[] bytes = text.getBytes(StandardCharsets.ISO_8859_1);
        for (int from = 0; from < bytes.length; from += 20) {
            int[] numbers = new int[5];
            for (int k = 0; k < 20; k++) {
                int b = from + k < bytes.length ? bytes[from + k] & 255 : '?';
                numbers[k / 4] = numbers[k / 4] << 8 | b;
            }
            x.feed(numbers[0], numbers[1], numbers[2], numbers[3], numbers[4]);
        }
    }

    /** The TAPE is empty ahead of it. */
    static int tell(OddsSolver x, String text) {
        feed(x, text);
        return x.text(text.length());
    }

    static OddsSolver solverOf(String text) {
        OddsSolver x = new OddsSolver();
        int answer = tell(x, text);
        if (answer < 0) {
            due("text of " + text, answer, 0);
        }
        return x;
    }

    static void close() {
        System.out.println(asked + " answers asked for, " + wrong + " not as due");
        if (wrong != 0) {
            System.exit(1);
        }
    }
}
