/** Bounds of FIRST values, chances, what is taken back, and of STATEMENTS (promises 1, 5 to 10, and "Terms"). */
public final class BoundProgramTests {
    private static final int NONE = OddsSolver.NONE;
    private static final int[] FAR_OUT = {Integer.MIN_VALUE, -1000, -2, -1, 1000, Integer.MAX_VALUE};

    public static void main(String[] args) {
        newObject();
        firstOfVariables();
        firstOfNumbers();
        firstWas();
        chanceOfStatements();
        chanceOfNumbers();
        chanceOfOthers();
        undoTwelve();
        undoThirteen();
        undoOfMany();
        undoAltersNothing();
        undoOfRefused();
        undoOfNone();
        undoAll();
        toldBounds();
        statementBounds();
        statementNone();
        statementPlaces();
        placesOfBlocks();
        emptyBlocks();
        behindTheLast();
        firstOfBounds();
        sumsWrap();
        testsAtTheBound();
        Check.close();
    }

    private static void newObject() {
        Check.by("Promise 1", "No STATEMENTS, FIRST values 0.");
        OddsSolver x = new OddsSolver();
        int[] dues = {0, 1, 1, 0, 0, 0, 0, 0};
        for (int what = 0; what < dues.length; what++) {
            Check.due("told " + what, x.told(what), dues[what]);
        }
        for (int v = 0; v < 6; v++) {
            Check.due("firstOf", x.firstOf(v), 0);
            Check.due("value", x.value(v, 0, 0), 1);
            Check.due("mean", x.mean(v, 0), 0);
            Check.due("classes", x.classes(v), 1);
        }
        Check.noElement("statement(0, 0)", () -> x.statement(0, 0));
        Check.noElement("chance(0, 0)", () -> x.chance(0, 0));
        Check.noElement("arc(0, 0, 0)", () -> x.arc(0, 0, 0));
        Check.noElement("state(1, 0)", () -> x.state(1, 0));
        Check.due("total(0, 0)", x.total(0, 0), 1);
        Check.due("total(1, 0)", x.total(1, 0), 0);
        Check.due("total(2, 0)", x.total(2, 0), 0);
        Check.due("within(0, 0)", x.within(0, 0), 1);
        Check.due("first of one without statements", x.first(3, 9), 0);
        Check.due("START is at the END", x.value(3, 9, 0), 1);
        Check.due("its mean", x.mean(3, 0), 9);
        Check.due("print", x.print(), 900);
        OddsSolver y = new OddsSolver();
        Check.due("another new object", y.firstOf(3), 0);
        Check.due("another new object", y.status(0), 0);
    }

    private static void firstOfVariables() {
        Check.by("Promise 5", "NoSuchElementException: no such VARIABLE (so below: VARIABLE, STATEMENT, STATE, ARC; ahead of others)");
        OddsSolver x = Check.solverOf("a=a;");
        Check.due("first(0, 1)", x.first(0, 1), 0);
        Check.due("first(5, 1)", x.first(5, 1), 0);
        Check.noElement("first(6, 1)", () -> x.first(6, 1));
        for (int v : FAR_OUT) {
            Check.noElement("first(" + v + ", 1)", () -> x.first(v, 1));
            Check.noElement("first(" + v + ", 10)", () -> x.first(v, 10));
        }
        Check.due("told(7)", x.told(7), 2);
        Check.due("status(0)", x.status(0), 1 + 2 * FAR_OUT.length);
        Check.due("status(1)", x.status(1), 0);
        Check.due("both stay", x.print(), (100001L * 31 + 1) * 31 + 100001);
    }

    private static void firstOfNumbers() {
        Check.by("Promise 5", "IllegalArgumentException: another number (so below).");
        OddsSolver x = Check.solverOf("a=a;");
        for (int number : FAR_OUT) {
            Check.noArgument("first(2, " + number + ")", () -> x.first(2, number));
        }
        Check.noArgument("first(2, 10)", () -> x.first(2, 10));
        Check.due("told(7)", x.told(7), 0);
        Check.due("firstOf(2)", x.firstOf(2), 0);
        Check.due("status(1)", x.status(1), FAR_OUT.length + 1);
        Check.due("first(2, 9)", x.first(2, 9), 0);
        Check.noArgument("first(2, 10)", () -> x.first(2, 10));
        Check.due("first(2, 0)", x.first(2, 0), 9);
        Check.due("told(7)", x.told(7), 2);
    }

    private static void firstWas() {
        Check.by("Promise 5", "FIRST value of a VARIABLE (0 to 9): what it was.");
        for (int v = 0; v < 6; v++) {
            OddsSolver x = Check.solverOf("while a=a+1{}");
            int was = 0;
            for (int number = 9; number >= 0; number--) {
                Check.due("first", x.first(v, number), was);
                Check.due("firstOf", x.firstOf(v), number);
                Check.due("START", x.state(0, 1 + v), number);
                Check.due("value", x.value(v, number, 0), 1);
                was = number;
            }
            for (int w = 0; w < 6; w++) {
                Check.due("others stay", x.firstOf(w), 0);
            }
        }
        OddsSolver x = Check.solverOf("stop;");
        for (int v = 0; v < 6; v++) {
            x.first(v, 9);
        }
        Check.due("all of them 9", x.print(), ((999999L * 31) + 1) * 31 + 999999);
    }

    private static void chanceOfStatements() {
        Check.by("Promise 6", "N of a flip: what it was.");
        OddsSolver x = Check.solverOf("a=1;".repeat(39) + "flip 20{}");
        Check.due("chance of the 40th", x.chance(39, 59), 20);
        Check.due("chance of the 40th", x.chance(39, 0), 59);
        Check.due("statement(39, 2)", x.statement(39, 2), 0);
        Check.noElement("chance(40, 1)", () -> x.chance(40, 1));
        Check.noElement("chance(40, 61)", () -> x.chance(40, 61));
        for (int k : FAR_OUT) {
            Check.noElement("chance(" + k + ", 1)", () -> x.chance(k, 1));
            Check.noElement("chance(" + k + ", -1)", () -> x.chance(k, -1));
        }
        Check.due("told(7)", x.told(7), 2);
        Check.due("status(0)", x.status(0), 2 + 2 * FAR_OUT.length);
        OddsSolver y = Check.solverOf("flip 20{a=1;}flip 30{b=1;}");
        Check.due("chance of the first", y.chance(0, 10), 20);
        Check.due("the other stays", y.statement(2, 2), 30);
        Check.due("value", y.value(0, 1, 2), 6);
        Check.due("value", y.value(1, 1, 2), 2);
    }

    private static void chanceOfNumbers() {
        Check.by("Promise 6", "NoSuchElementException, IllegalArgumentException");
        OddsSolver x = Check.solverOf("flip 20{a=1;}");
        int[] dues = {0, 60, 1, 59, 0};
        int was = 20;
        for (int n : dues) {
            Check.due("chance", x.chance(0, n), was);
            Check.due("its arcs", x.state(0, 9), n == 0 || n == 60 ? 1 : 2);
            Check.due("its sixtieths", x.arc(0, 0, 1), n == 0 ? 60 : n);
            Check.due("into the block", x.arc(0, 0, 0), 1);
            Check.due("a=1 may come", x.told(1), n == 0 ? 2 : n == 60 ? 3 : 4);
            was = n;
        }
        Check.noArgument("chance(0, 61)", () -> x.chance(0, 61));
        for (int n : FAR_OUT) {
            Check.noArgument("chance(0, " + n + ")", () -> x.chance(0, n));
        }
        Check.due("statement(0, 2)", x.statement(0, 2), 0);
        Check.due("told(7)", x.told(7), 5);
        Check.due("status(1)", x.status(1), 1 + FAR_OUT.length);
    }

    private static void chanceOfOthers() {
        Check.by("Promise 6", "IllegalArgumentException: also it is no flip.");
        OddsSolver x = Check.solverOf("b=a;draw c 5;flip 7{}if a=1{}while a=1{}observe a=0;stop;");
        for (int k = 0; k < 7; k++) {
            int asked = k;
            int before = x.statement(k, 2);
            if (k != 2) {
                Check.noArgument("chance(" + k + ", 5)", () -> x.chance(asked, 5));
                Check.noArgument("chance(" + k + ", 61)", () -> x.chance(asked, 61));
                Check.due("statement(" + k + ", 2)", x.statement(k, 2), before);
            }
        }
        Check.noElement("chance(7, 5)", () -> x.chance(7, 5));
        Check.due("told(7)", x.told(7), 0);
        Check.due("status(1)", x.status(1), 12);
        Check.due("a flip", x.chance(2, 5), 7);
    }

    private static void undoTwelve() {
        Check.by("Promise 7", "All is as ahead of the latest first(), chance() .. how many still can");
        OddsSolver x = Check.solverOf("flip 20{a=1;}");
        for (int k = 0; k < 6; k++) {
            x.first(k, k + 1);
            x.chance(0, k);
        }
        Check.due("told(7)", x.told(7), 12);
        for (int k = 5; k >= 0; k--) {
            Check.due("undo of a chance", x.undo(), 2 * k + 1);
            Check.due("chance", x.statement(0, 2), k == 0 ? 20 : k - 1);
            Check.due("first stays", x.firstOf(k), k + 1);
            Check.due("undo of a first", x.undo(), 2 * k);
            Check.due("first", x.firstOf(k), 0);
            Check.due("told(7)", x.told(7), 2 * k);
        }
        Check.due("undo beyond", x.undo(), NONE);
        Check.due("chance", x.statement(0, 2), 20);
        Check.due("print", x.print(), Check.solverOf("flip 20{a=1;}").print());
    }

    private static void undoThirteen() {
        Check.by("Promise 7", "(the latest 12 can be taken back; also such as altered nothing)");
        OddsSolver x = Check.solverOf("flip 20{a=1;}");
        x.chance(0, 21);
        Check.due("told(7)", x.told(7), 1);
        for (int k = 1; k <= 11; k++) {
            x.first(k % 6, k % 10);
        }
        Check.due("told(7)", x.told(7), 12);
        // the thirteenth: the chance is out of reach
        Check.due("first", x.first(0, 9), 6);
        Check.due("told(7)", x.told(7), 12);
        for (int k = 11; k >= 0; k--) {
            Check.due("undo", x.undo(), k);
        }
        Check.due("undo beyond", x.undo(), NONE);
        Check.due("the first of the thirteen stays", x.statement(0, 2), 21);
        for (int v = 0; v < 6; v++) {
            Check.due("firstOf", x.firstOf(v), 0);
        }
        for (int k = 0; k < 30; k++) {
            x.first(k % 6, k % 10);
        }
        for (int k = 29; k > 17; k--) {
            Check.due("undo", x.undo(), k - 18);
            Check.due("each where it was", x.firstOf(k % 6), (k - 6) % 10);
            Check.due("the others stay", x.firstOf((k + 5) % 6), (k - 1) % 10);
        }
        Check.due("undo beyond", x.undo(), NONE);
        for (int k = 0; k < 40; k++) {
            x.first(1, k % 10);
            Check.due("told(7)", x.told(7), Math.min(12, k + 1));
        }
        for (int k = 39; k > 27; k--) {
            Check.due("undo", x.undo(), k - 28);
            Check.due("what it was", x.firstOf(1), (k - 1) % 10);
        }
        Check.due("undo beyond", x.undo(), NONE);
        Check.due("firstOf", x.firstOf(1), 7);
    }

    private static void undoOfMany() {
        Check.by("Promise 7", "All is as ahead of the latest first(), chance() (the latest 12 can be taken back");
        OddsSolver x = Check.solverOf("flip 7{}".repeat(40));
        for (int k = 0; k < 40; k++) {
            Check.due("chance(" + k + ", ..)", x.chance(k, 20 + k), 7);
        }
        for (int k = 39; k >= 28; k--) {
            Check.due("undo", x.undo(), k - 28);
            Check.due("taken back", x.statement(k, 2), 7);
            Check.due("the one ahead stays", x.statement(k - 1, 2), 19 + k);
        }
        Check.due("undo beyond", x.undo(), NONE);
        for (int k = 0; k < 28; k++) {
            Check.due("out of reach", x.statement(k, 2), 20 + k);
        }
    }

    private static void undoAltersNothing() {
        Check.by("Promise 7", "also such as altered nothing");
        OddsSolver x = Check.solverOf("flip 20{a=1;}");
        Check.due("first", x.first(0, 0), 0);
        Check.due("chance", x.chance(0, 20), 20);
        Check.due("told(7)", x.told(7), 2);
        x.first(0, 5);
        for (int k = 0; k < 11; k++) {
            Check.due("first, the same", x.first(0, 5), 5);
        }
        Check.due("told(7)", x.told(7), 12);
        for (int k = 11; k > 0; k--) {
            Check.due("undo", x.undo(), k);
            Check.due("firstOf", x.firstOf(0), 5);
        }
        Check.due("undo", x.undo(), 0);
        Check.due("firstOf", x.firstOf(0), 0);
        Check.due("undo beyond", x.undo(), NONE);
    }

    private static void undoOfRefused() {
        Check.by("Promise 7", "All is as ahead of the latest first(), chance()");
        OddsSolver x = Check.solverOf("flip 20{a=1;}");
        x.first(0, 4);
        Check.noArgument("first(0, 10)", () -> x.first(0, 10));
        Check.noElement("first(6, 0)", () -> x.first(6, 0));
        Check.noArgument("chance(1, 3)", () -> x.chance(1, 3));
        Check.noArgument("chance(0, 61)", () -> x.chance(0, 61));
        Check.due("told(7)", x.told(7), 1);
        Check.due("undo", x.undo(), 0);
        Check.due("firstOf", x.firstOf(0), 0);
        // behind a text with a FAULT they still can
        x.chance(0, 30);
        Check.tell(x, "flip 61{}");
        Check.due("undo", x.undo(), 0);
        Check.due("statement(0, 2)", x.statement(0, 2), 20);
        // what was taken back is not told again
        x.first(1, 1);
        x.first(1, 2);
        Check.due("undo", x.undo(), 1);
        Check.due("first", x.first(1, 3), 1);
        Check.due("undo", x.undo(), 1);
        Check.due("firstOf", x.firstOf(1), 1);
        Check.due("undo", x.undo(), 0);
        Check.due("firstOf", x.firstOf(1), 0);
    }

    private static void undoOfNone() {
        Check.by("Promise 7", "NONE: none could.");
        OddsSolver x = new OddsSolver();
        Check.due("undo of a new object", x.undo(), NONE);
        Check.due("undo once more", x.undo(), NONE);
        Check.due("told(7)", x.told(7), 0);
        Check.due("nothing was refused", x.status(0) + x.status(1) + x.status(2), 0);
        Check.due("first", x.first(0, 1), 0);
        Check.due("undo", x.undo(), 0);
        Check.due("undo beyond", x.undo(), NONE);
        x.first(0, 1);
        x.text(0);
        Check.due("undo behind a text", x.undo(), NONE);
        Check.due("firstOf", x.firstOf(0), 0);
    }

    private static void undoAll() {
        Check.by("Promise 7", "All is as ahead of the latest first(), chance()");
        String text = "flip 20{draw a 2;}observe a+b<2;";
        String before = Answers.of(Check.solverOf(text));
        OddsSolver x = Check.solverOf(text);
        x.first(1, 9);
        x.total(0, 0);
        x.undo();
        Check.same("all answers behind first() and undo()", Answers.of(x), before);
        OddsSolver y = Check.solverOf(text);
        y.chance(0, 60);
        y.classes(0);
        y.worth();
        y.undo();
        Check.same("all answers behind chance() and undo()", Answers.of(y), before);
        OddsSolver z = Check.solverOf(text);
        z.chance(0, 20);
        z.within(9, 0);
        z.undo();
        Check.same("all answers behind what altered nothing", Answers.of(z), before);
    }

    private static void toldBounds() {
        Check.by("Promise 8", "0 STATEMENTS, 1 STATES (NONE: TOO MANY), 2 STATES at the END, 3 TRAPPED ones");
        OddsSolver x = Check.solverOf("flip 20{while 0=0{}}else{flip 30{observe a=1;}}");
        int[] dues = {4, 6, 1, 1, 6, 3, 0, 0};
        for (int what = 0; what < dues.length; what++) {
            Check.due("told(" + what + ")", x.told(what), dues[what]);
        }
        Check.noArgument("told(8)", () -> x.told(8));
        for (int what : FAR_OUT) {
            Check.noArgument("told(" + what + ")", () -> x.told(what));
        }
        Check.due("status(1)", x.status(1), 1 + FAR_OUT.length);
        Check.feed(x, "a");
        Check.due("told(6)", x.told(6), 20);
        x.first(0, 1);
        Check.due("told(7)", x.told(7), 1);
    }

    private static void statementBounds() {
        Check.by("Promise 9", "Of a STATEMENT: 0 what it is (0 to 6)");
        OddsSolver x = Check.solverOf("b=a;draw c 5;flip 7{}if a=1{}while a=1{}observe a=0;stop;");
        for (int k = 0; k < 7; k++) {
            Check.due("statement(" + k + ", 0)", x.statement(k, 0), k);
        }
        Check.noElement("statement(7, 0)", () -> x.statement(7, 0));
        Check.noElement("statement(7, 5)", () -> x.statement(7, 5));
        Check.noArgument("statement(6, 5)", () -> x.statement(6, 5));
        for (int number : FAR_OUT) {
            Check.noElement("statement(" + number + ", 0)", () -> x.statement(number, 0));
            Check.noElement("statement(" + number + ", 9)", () -> x.statement(number, 9));
            Check.noArgument("statement(0, " + number + ")", () -> x.statement(0, number));
        }
        Check.due("status(0)", x.status(0), 2 + 2 * FAR_OUT.length);
        Check.due("status(1)", x.status(1), 1 + FAR_OUT.length);
        Check.tell(x, "stop;");
        Check.noElement("statement(1, 0) of a shorter program", () -> x.statement(1, 0));
    }

    private static void statementNone() {
        Check.by("Promise 9", "1 its VARIABLE (of 0, 1; NONE), 2 K or N (of 1, 2; NONE)");
        OddsSolver x = Check.solverOf("f=a;draw a 10;flip 0{}if a=1{}while a=1{}observe a=0;stop;");
        int[] variables = {5, 0, NONE, NONE, NONE, NONE, NONE};
        int[] numbers = {NONE, 10, 0, NONE, NONE, NONE, NONE};
        int[] others = {NONE, NONE, 3, 4, 5, 8, NONE};
        for (int k = 0; k < 7; k++) {
            Check.due("statement(" + k + ", 1)", x.statement(k, 1), variables[k]);
            Check.due("statement(" + k + ", 2)", x.statement(k, 2), numbers[k]);
            Check.due("statement(" + k + ", 4)", x.statement(k, 4), others[k]);
        }
        x.chance(2, 60);
        Check.due("N, changed", x.statement(2, 2), 60);
        // nothing of a longer program stays in a shorter one
        Check.tell(x, "stop;stop;f=1;");
        Check.due("statement(0, 1)", x.statement(0, 1), NONE);
        Check.due("statement(1, 2)", x.statement(1, 2), NONE);
        Check.due("statement(2, 2)", x.statement(2, 2), NONE);
        Check.due("statement(2, 4)", x.statement(2, 4), NONE);
    }

    private static void statementPlaces() {
        Check.by("Promise 9", "3 the PLACE behind it (of 2 to 5 into its BLOCK, on if the TEST holds; of 0, 1 the next one, of 6 the END)");
        OddsSolver x = Check.solverOf("a=1;draw b 2;observe a=b;stop;flip 5{stop;}else{stop;}if a=1{stop;}while a=b{stop;}");
        int[] behind = {1, 2, 3, 11, 5, 11, 11, 8, 11, 10, 11};
        int[] others = {NONE, NONE, 12, NONE, 6, NONE, NONE, 9, NONE, 11, NONE};
        for (int k = 0; k < behind.length; k++) {
            Check.due("statement(" + k + ", 3)", x.statement(k, 3), behind[k]);
            Check.due("statement(" + k + ", 4)", x.statement(k, 4), others[k]);
        }
        // the only statement
        Check.due("of 0", Check.solverOf("a=1;").statement(0, 3), 1);
        Check.due("of 1", Check.solverOf("draw a 2;").statement(0, 3), 1);
        Check.due("of 5", Check.solverOf("observe a=1;").statement(0, 4), 2);
        Check.due("of 6", Check.solverOf("stop;").statement(0, 3), 1);
    }

    private static void placesOfBlocks() {
        Check.by("Promise 9, Terms", "Behind the last STATEMENT of a BLOCK of a while it is that while again, of another BLOCK what is behind the whole");
        // 0 while { 1 if { 2 a } else { 3 flip { 4 b } else { 5 c } } }  6 if { 7 while { 8 d } } 9 e
        OddsSolver x = Check.solverOf("while a=0{if b=0{a=1;}else{flip 9{b=1;}else{c=1;}}}if c=1{while d=0{d=1;}}e=1;");
        int[] behind = {1, 2, 0, 4, 0, 0, 7, 8, 7, 10};
        int[] others = {6, 3, NONE, 5, NONE, NONE, 9, 9, NONE, NONE};
        for (int k = 0; k < behind.length; k++) {
            Check.due("statement(" + k + ", 3)", x.statement(k, 3), behind[k]);
            Check.due("statement(" + k + ", 4)", x.statement(k, 4), others[k]);
        }
        // six deep: behind the innermost it is the only while
        OddsSolver y = Check.solverOf("while a=0{if b=0{flip 3{if c=0{flip 3{if d=0{f=1;}}}}}}");
        Check.due("behind the innermost", y.statement(6, 3), 0);
        for (int k = 1; k < 6; k++) {
            Check.due("the other one of " + k, y.statement(k, 4), 0);
        }
    }

    private static void emptyBlocks() {
        Check.by("Promise 9, Terms", "an empty BLOCK, one that is not told, is gone through at once");
        OddsSolver x = Check.solverOf("flip 3{}if a=0{}else{}while a=1{}flip 3{}else{b=1;}if a=0{c=1;}else{}d=1;");
        int[] behind = {1, 2, 2, 5, 5, 6, 7, 8};
        int[] others = {1, 2, 3, 4, NONE, 7, NONE, NONE};
        for (int k = 0; k < behind.length; k++) {
            Check.due("statement(" + k + ", 3)", x.statement(k, 3), behind[k]);
            Check.due("statement(" + k + ", 4)", x.statement(k, 4), others[k]);
        }
        OddsSolver y = Check.solverOf("while a=0{}");
        Check.due("an empty while's block", y.statement(0, 3), 0);
        Check.due("one state", y.told(1), 1);
        Check.due("it leads to itself", y.arc(0, 0, 0), 0);
        OddsSolver z = Check.solverOf("while a=0{while b=0{}}while c=0{if d=0{}}");
        Check.due("a while in a while", z.statement(1, 3), 1);
        Check.due("a while in a while", z.statement(1, 4), 0);
        Check.due("an if in a while", z.statement(3, 3), 2);
        Check.due("an if in a while", z.statement(3, 4), 2);
        OddsSolver w = Check.solverOf("if a=0{if a=0{}else{}}else{flip 1{}}");
        Check.due("nothing but the END behind", w.statement(0, 3), 1);
        Check.due("nothing but the END behind", w.statement(1, 3), 3);
        Check.due("nothing but the END behind", w.statement(1, 4), 3);
        Check.due("nothing but the END behind", w.statement(2, 3), 3);
    }

    private static void behindTheLast() {
        Check.by("Promise 9, Terms", "Behind the last STATEMENT is the END.");
        String[] texts = {"a=1;", "draw a 2;", "flip 5{}", "if a=0{}", "while a=1{}", "observe a=0;", "stop;"};
        for (String text : texts) {
            OddsSolver x = Check.solverOf("b=1;" + text);
            Check.due("the END behind " + text, x.statement(1, text.startsWith("while") ? 4 : 3), 2);
            Check.due("it is come to behind " + text, x.total(0, 0), 1);
        }
        OddsSolver x = Check.solverOf("a=1;".repeat(40));
        Check.due("behind the 40th", x.statement(39, 3), 40);
        Check.due("its place", x.state(40, 0), 40);
    }

    private static void firstOfBounds() {
        Check.by("Promise 10", "FIRST value of a VARIABLE.");
        OddsSolver x = Check.solverOf("a=a;");
        x.first(0, 9);
        x.first(5, 8);
        Check.due("firstOf(0)", x.firstOf(0), 9);
        Check.due("firstOf(5)", x.firstOf(5), 8);
        Check.noElement("firstOf(6)", () -> x.firstOf(6));
        for (int v : FAR_OUT) {
            Check.noElement("firstOf(" + v + ")", () -> x.firstOf(v));
        }
        Check.due("status(0)", x.status(0), 1 + FAR_OUT.length);
        Check.due("firstOf(5), asked again", x.firstOf(5), 8);
        // a program that changes a variable changes no FIRST value
        Check.tell(x, "a=7;");
        Check.due("value", x.value(0, 7, 0), 1);
        Check.due("firstOf(0)", x.firstOf(0), 0);
    }

    private static void sumsWrap() {
        Check.by("Promise 14, SUM", "or two, added or taken away, modulo 10 (0 to 9)");
        for (int a = 0; a < 10; a++) {
            OddsSolver x = Check.solverOf("c=a+b;d=a-b;e=9+a;f=0-a;");
            x.first(0, a);
            for (int b = 0; b < 10; b++) {
                x.first(1, b);
                Check.due(a + " + " + b, x.value(2, (a + b) % 10, 0), 1);
                Check.due(a + " - " + b, x.value(3, (a - b + 10) % 10, 0), 1);
            }
            Check.due("9 + " + a, x.value(4, (9 + a) % 10, 0), 1);
            Check.due("0 - " + a, x.value(5, (10 - a) % 10, 0), 1);
        }
        OddsSolver y = Check.solverOf("a=9;a=a+a;b=a-9;c=b;d=9+9;e=0-9;f=9+1;");
        int[] dues = {8, 9, 9, 8, 1, 0};
        for (int v = 0; v < 6; v++) {
            Check.due("variable " + v, y.value(v, dues[v], 0), 1);
        }
    }

    private static void testsAtTheBound() {
        Check.by("Promise 14, TEST", "two SUMS; the first is the second (=), is less (<), is another one (#)");
        for (int a = 0; a < 10; a++) {
            OddsSolver x = Check.solverOf("if a=b{c=1;}if a<b{d=1;}if a#b{e=1;}if a+1<b{f=1;}");
            x.first(0, a);
            for (int b = 0; b < 10; b++) {
                x.first(1, b);
                Check.due(a + " = " + b, x.value(2, 1, 0), a == b ? 1 : 0);
                Check.due(a + " < " + b, x.value(3, 1, 0), a < b ? 1 : 0);
                Check.due(a + " # " + b, x.value(4, 1, 0), a != b ? 1 : 0);
                Check.due(a + " + 1 < " + b, x.value(5, 1, 0), (a + 1) % 10 < b ? 1 : 0);
            }
        }
        OddsSolver y = Check.solverOf("if 9+1=0{a=1;}if 9+1<1{b=1;}if 0-1#9{c=1;}if 0-1<9{d=1;}if 8<0-1{e=1;}if 5+5<5-5{f=1;}");
        int[] dues = {1, 1, 0, 0, 1, 0};
        for (int v = 0; v < 6; v++) {
            Check.due("sums of a test wrap too, " + v, y.value(v, 1, 0), dues[v]);
        }
    }
}
