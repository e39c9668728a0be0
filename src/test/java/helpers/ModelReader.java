import java.util.ArrayList;
import java.util.List;

/** Reads a text without a FAULT into the model's trees; TextOracle tells beforehand that there is none. */
final class ModelReader {
    private final String text;
    private int at;

    private ModelReader(String text) {
        this.text = text;
    }

    static List<Model.Node> read(String text) {
        return new ModelReader(text).nodes();
    }

    private char sign() {
        while (at < text.length() && text.charAt(at) == ' ') {
            at++;
        }
        return at < text.length() ? text.charAt(at) : '}';
    }

    private char take() {
        char sign = sign();
        at++;
        return sign;
    }

    private String word() {
        sign();
        int from = at;
        while (at < text.length() && Character.isLowerCase(text.charAt(at))) {
            at++;
        }
        return text.substring(from, at);
    }

    private int number() {
        sign();
        int from = at;
        while (at < text.length() && Character.isDigit(text.charAt(at))) {
            at++;
        }
        return Integer.parseInt(text.substring(from, at).replaceAll("^0+(?=.)", ""));
    }

    private List<Model.Node> nodes() {
        List<Model.Node> nodes = new ArrayList<>();
        while (sign() != '}') {
            nodes.add(node());
        }
        return nodes;
    }

    private Model.Node node() {
        Model.Node node = new Model.Node();
        String word = word();
        node.kind = Math.max(0, List.of("", "draw", "flip", "if", "while", "observe", "stop").indexOf(word));
        if (node.kind == 0) {
            node.variable = word.charAt(0) - 'a';
            take();
            node.left = sum();
        } else if (node.kind == 1) {
            node.variable = word().charAt(0) - 'a';
            node.amount = number();
        } else if (node.kind == 2) {
            node.amount = number();
        } else if (node.kind != 6) {
            node.left = sum();
            node.relation = take();
            node.right = sum();
        }
        if (node.kind >= 2 && node.kind <= 4) {
            node.block = block();
            int back = at;
            if (word().equals("else")) {
                node.other = block();
            } else {
                at = back;
            }
        } else {
            take();
        }
        return node;
    }

    private List<Model.Node> block() {
        take();
        List<Model.Node> nodes = nodes();
        take();
        return nodes;
    }

    private Model.Sum sum() {
        int first = term();
        if (sign() == '+' || sign() == '-') {
            char sign = take();
            return new Model.Sum(first, sign, term());
        }
        return new Model.Sum(first, (char) 0, 0);
    }

    private int term() {
        return Character.isDigit(sign()) ? number() : 10 + take() - 'a';
    }
}
