import java.util.function.LongSupplier;

/**
 * Most that an object can be asked, as one text: two objects that stand alike answer alike. Some 220 calls, so that two
 * of them fit into the 512 of an object.
 */
final class Answers {
    private final OddsSolver x;
    private final StringBuilder text = new StringBuilder();

    private Answers(OddsSolver x) {
        this.x = x;
    }

    /** What status() answers is left out: it counts refused calls, and some of those here are. */
    static String of(OddsSolver x) {
        Answers answers = new Answers(x);
        answers.askProgram();
        answers.askStates();
        answers.askOdds();
        answers.askRuns();
        return answers.text.toString();
    }

    /** The same, and what is on the TAPE and can be taken back, which are lost by it. */
    static String ofAll(OddsSolver x) {
        Answers answers = new Answers(x);
        answers.text.append(of(x));
        while (x.told(7) > 0) {
            answers.ask("undo", () -> x.undo());
            answers.askProgram();
        }
        answers.ask("text", () -> x.text(x.told(6)));
        answers.askProgram();
        return answers.text.toString();
    }

    private void ask(String call, LongSupplier asked) {
        text.append(call).append(' ').append(Check.answerOf(asked)).append('\n');
    }

    private void askProgram() {
        ask("fault", () -> x.fault());
        for (int what = 0; what < 8; what++) {
            int asked = what;
            ask("told " + what, () -> x.told(asked));
        }
        for (int v = 0; v < 6; v++) {
            int asked = v;
            ask("firstOf " + v, () -> x.firstOf(asked));
        }
        int statements = Math.min(10, x.told(0));
        for (int k = 0; k < statements; k++) {
            int asked = k;
            for (int what = 0; what < 5; what++) {
                int which = what;
                ask("statement " + k + " " + what, () -> x.statement(asked, which));
            }
        }
        ask("print", () -> x.print());
    }

    private void askStates() {
        int states = Math.min(12, x.told(1));
        for (int i = 0; i < states; i++) {
            int asked = i;
            ask("level", () -> x.state(asked, 7));
            ask("trapped", () -> x.state(asked, 8));
            ask("arcs", () -> x.state(asked, 9));
            ask("arc", () -> x.arc(asked, 0, 0));
            ask("arc", () -> x.arc(asked, 0, 1));
            ask("visits", () -> x.visits(asked, 0));
            ask("classOf", () -> x.classOf(0, asked));
        }
    }

    private void askOdds() {
        for (int what = 0; what < 3; what++) {
            int asked = what;
            ask("total", () -> x.total(asked, 0));
            ask("total", () -> x.total(0, asked));
            ask("both", () -> x.both(0, asked, 1, 1, 0));
            ask("independent", () -> x.independent(0, asked));
            ask("within", () -> x.within(4 * asked, 0));
        }
        for (int v = 0; v < 6; v++) {
            int asked = v;
            ask("value", () -> x.value(asked, 1, 0));
            ask("mean", () -> x.mean(asked, 0));
            ask("classes", () -> x.classes(asked));
        }
        ask("steps", () -> x.steps(0));
    }

    private void askRuns() {
        for (int k = -1; k < 11; k++) {
            int asked = k;
            ask("run", () -> x.run(asked));
        }
        ask("worth", () -> x.worth());
    }
}
