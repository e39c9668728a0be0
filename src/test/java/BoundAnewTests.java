/**
 * What later calls answer behind a change, a new text, a FAULT: nothing of what was there before stays. An object that
 * was asked everything of one program, and then told another, answers as a new object does (promises 3, 5, 6, 7).
 */
public final class BoundAnewTests {
    private static final String[] PROGRAMS = {
        "", "stop;", "observe 0=1;", "while 0=0{b=b+1;}", "while 0=0{}", "flip 60{}".repeat(10), "flip 30{}else{a=1;}",
        "flip 30{a=1;}else{observe 0=1;}", "draw a 10;draw a 10;", Programs.PAIR, Programs.TOO_MANY, Programs.SINGULAR,
        Programs.NO_ENDED, Programs.chain(200), Programs.brokenChain(200), Programs.ring(200), Programs.states(200),
        Programs.chain(201), "if a=1{if b=1{if c=1{}else{flip 9{d=1;}}}}draw b 3;"};
    /** Each leaves the reader somewhere else: in a block, in an else's, behind forty, six deep, in a TEST. */
    private static final String[] MARRED = {
        "?", "a=10;", "flip 3{flip 3{a=1;", "flip 3{}else{if a=1{", "a=1;".repeat(41), "if a=1{".repeat(7), "if a=1{}else",
        "while a=1{b=1;}else{}", "observe a=", "flip 3{" + "b=2;".repeat(40), "draw a"};

    public static void main(String[] args) {
        anotherProgram();
        behindFaults();
        otherFirsts();
        otherChances();
        textOfEarlier();
        Check.close();
    }

    private static void anotherProgram() {
        Check.by("Promise 3", "The first n bytes of the TAPE (empty then) tell the PROGRAM anew");
        for (String later : PROGRAMS) {
            String due = Answers.of(Check.solverOf(later));
            for (String earlier : PROGRAMS) {
                OddsSolver x = Check.solverOf(earlier);
                Answers.of(x);
                Check.tell(x, later);
                Check.same("'" + later + "' behind '" + earlier + "'", Answers.of(x), due);
            }
        }
    }

    private static void behindFaults() {
        Check.by("Promise 3", "or the FAULT less 10 (all stays)");
        for (String marred : MARRED) {
            for (String later : PROGRAMS) {
                OddsSolver x = Check.solverOf(Programs.PAIR);
                Check.due("text of '" + marred + "'", Check.tell(x, marred) < 0 ? 1 : 0, 1);
                Check.due("'" + later + "' behind '" + marred + "'", Check.tell(x, later), Check.solverOf(later).told(0));
                Check.same("'" + later + "' behind '" + marred + "'", Answers.of(x), Answers.of(Check.solverOf(later)));
            }
        }
    }

    private static void otherFirsts() {
        Check.by("Promise 5", "FIRST value of a VARIABLE (0 to 9): what it was.");
        String text = "if b<5{draw a 6;if a<b{while c=0{}}}else{observe d=0;}c=b;";
        for (int b = 0; b < 10; b++) {
            for (int later = 0; later < 10; later++) {
                OddsSolver x = Check.solverOf(text);
                x.first(1, b);
                Answers.of(x);
                x.first(1, later);
                OddsSolver due = Check.solverOf(text);
                due.first(1, later);
                due.first(1, later);
                Check.same("b " + later + " behind " + b, Answers.of(x), Answers.of(due));
                x.undo();
                due.first(1, b);
                Check.due("taken back", x.print(), due.print());
            }
        }
    }

    private static void otherChances() {
        Check.by("Promise 6", "N of a flip: what it was.");
        String text = "flip 30{flip 20{a=1;}else{observe 0=1;}}else{flip 10{while 0=0{}}}";
        int[] chances = {0, 1, 30, 59, 60};
        for (int earlier : chances) {
            for (int later : chances) {
                for (int statement = 0; statement < 6; statement += statement == 0 ? 1 : 3) {
                    OddsSolver x = Check.solverOf(text);
                    x.chance(statement, earlier);
                    Answers.of(x);
                    x.chance(statement, later);
                    OddsSolver due = Check.solverOf(text);
                    due.chance(statement, later);
                    due.chance(statement, later);
                    Check.same(later + " behind " + earlier, Answers.of(x), Answers.of(due));
                }
            }
        }
        // START at the END, then one of two, of one: what was found at more STATES does not count any more
        OddsSolver x = Check.solverOf("flip 30{a=1;}");
        Check.due("value", x.value(0, 0, 2), 2);
        Check.due("mean", x.mean(0, 2), 2);
        x.chance(0, 0);
        Check.due("value", x.value(0, 0, 0), 1);
        Check.due("value", x.value(0, 1, 0), 0);
        Check.due("both", x.both(0, 0, 0, 0, 0), 1);
        Check.due("mean", x.mean(0, 0), 0);
        Check.due("independent", x.independent(0, 0), 1);
        Check.due("steps", x.steps(0), 1);
        Check.due("within", x.within(200, 0), 1);
        Check.due("classes", x.classes(0), 2);
    }

    private static void textOfEarlier() {
        Check.by("Promise 3", "tell the PROGRAM anew");
        OddsSolver x = new OddsSolver();
        String forty = "flip 7{}".repeat(40);
        for (int round = 0; round < 4; round++) {
            Check.due("text of forty", Check.tell(x, forty), 40);
            x.chance(39, round);
            Check.due("text of one", Check.tell(x, "flip 9{}"), 1);
            Check.due("its N", x.statement(0, 2), 9);
            Check.noElement("chance(39, 0)", () -> x.chance(39, 0));
            Check.noElement("statement(1, 0)", () -> x.statement(1, 0));
            Check.due("text of forty", Check.tell(x, forty), 40);
            Check.due("N of the last", x.statement(39, 2), 7);
        }
    }
}
