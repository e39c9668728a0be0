import java.util.ArrayDeque;
import java.util.Deque;

/**
 * The grammar of a TEXT once more, as a stack of what must come yet: a word of the stack is taken away and either
 * matched with the next token, or replaced by what it stands for.
 */
final class TextOracle {
    int fault;
    int place = -1;
    int statements;
    private final String text;
    private int from;
    private String token = "";
    private final Deque<String> due = new ArrayDeque<>();
    private int open;

    TextOracle(String text) {
        this.text = text;
        next();
        due.push("$");
        due.push("STATEMENTS");
        while (fault == 0 && !due.isEmpty()) {
            step(due.pop());
        }
    }

    private void next() {
        from += token.length();
        while (from < text.length() && text.charAt(from) == ' ') {
            from++;
        }
        int to = from;
        while (to < text.length() && text.charAt(to) >= 'a' && text.charAt(to) <= 'z') {
            to++;
        }
        if (to == from) {
            while (to < text.length() && text.charAt(to) >= '0' && text.charAt(to) <= '9') {
                to++;
            }
        }
        if (to == from && to < text.length()) {
            to++;
        }
        token = text.substring(from, to);
    }

    private void fail(int kind) {
        fault = kind;
        place = from;
    }

    private boolean isVariable() {
        return token.matches("[a-f]");
    }

    private boolean isNumber() {
        return token.matches("[0-9]+");
    }

    private void expect(String... words) {
        for (int k = words.length - 1; k >= 0; k--) {
            due.push(words[k]);
        }
    }

    private void step(String word) {
        switch (word) {
            case "$":
                if (!token.isEmpty()) {
                    fail(1);
                }
                break;
            case "STATEMENTS":
                begin();
                break;
            case "SUM":
                expect("TERM", "MORE");
                break;
            case "MORE":
                if (token.equals("+") || token.equals("-")) {
                    next();
                    expect("TERM");
                }
                break;
            case "TERM":
                if (isNumber()) {
                    takeNumber("0*[0-9]");
                } else {
                    take(isVariable());
                }
                break;
            case "RELATION":
                take(token.matches("[=<#]"));
                break;
            case "V":
                take(isVariable());
                break;
            case "K":
                takeNumber("0*([23456]|10)");
                break;
            case "N":
                takeNumber("0*([0-9]|[1-5][0-9]|60)");
                break;
            case "{":
                if (token.equals("{") && open == 6) {
                    fail(3);
                } else {
                    open++;
                    take(token.equals("{"));
                }
                break;
            case "}":
                open--;
                take(token.equals("}"));
                break;
            case "ELSE":
                if (token.equals("else")) {
                    next();
                    expect("{", "STATEMENTS", "}");
                }
                break;
            default:
                take(token.equals(word));
        }
    }

    private void take(boolean fits) {
        if (fits) {
            next();
        } else {
            fail(1);
        }
    }

    private void takeNumber(String pattern) {
        if (!isNumber()) {
            fail(1);
        } else if (!token.matches(pattern)) {
            fail(2);
        } else {
            next();
        }
    }

    private void begin() {
        boolean can = isVariable() || token.matches("draw|flip|if|while|observe|stop");
        if (!can) {
            return;
        }
        if (statements == 40) {
            fail(3);
            return;
        }
        statements++;
        due.push("STATEMENTS");
        String word = token;
        next();
        switch (word) {
            case "draw":
                expect("V", "K", ";");
                break;
            case "flip":
                expect("N", "{", "STATEMENTS", "}", "ELSE");
                break;
            case "if":
                expect("SUM", "RELATION", "SUM", "{", "STATEMENTS", "}", "ELSE");
                break;
            case "while":
                expect("SUM", "RELATION", "SUM", "{", "STATEMENTS", "}");
                break;
            case "observe":
                expect("SUM", "RELATION", "SUM", ";");
                break;
            case "stop":
                expect(";");
                break;
            default:
                expect("=", "SUM", ";");
        }
    }
}
