/** For each promise of the document: ordinary inputs, the edges it names, and wrong inputs. */
public final class PromiseTests {
    private static final int NONE = OddsSolver.NONE;
    private static final long WHOLE = 604661760000000000L;
    private static final String LOOP = "a=1;while a=1{flip 30{a=0;}}";

    public static void main(String[] args) {
        newObject();
        feed();
        text();
        textBlanks();
        textFaults();
        textDepthAndCount();
        first();
        chance();
        undo();
        told();
        statement();
        places();
        state();
        arc();
        sums();
        total();
        value();
        both();
        mean();
        independent();
        visits();
        steps();
        within();
        unsolved();
        classes();
        run();
        runTies();
        print();
        status();
        tooMany();
        Check.close();
    }

    private static void newObject() {
        OddsSolver x = new OddsSolver();
        Check.due("NONE", OddsSolver.NONE, -1);
        for (int what = 0; what < 8; what++) {
            int asked = what;
            Check.due("new: told " + what, () -> x.told(asked), what == 1 || what == 2 ? 1 : 0);
        }
        for (int v = 0; v < 6; v++) {
            Check.due("new: firstOf", x.firstOf(v), 0);
        }
        Check.due("new: fault", x.fault(), NONE);
        Check.due("new: undo", x.undo(), NONE);
        Check.due("new: total", x.total(0, 0), 1);
        Check.due("new: worth", x.worth(), WHOLE);
        Check.due("new: run", x.run(NONE), 0);
        Check.due("new: print", x.print(), 0);
        Check.due("new: steps", x.steps(0), 0);
        Check.due("new: visits", x.visits(0, 0), 1);
        Check.noElement("new: statement", () -> x.statement(0, 0));
    }

    private static void feed() {
        OddsSolver x = new OddsSolver();
        for (int k = 1; k <= 20; k++) {
            Check.due("feed", x.feed(0x20202020, 0x20202020, 0x20202020, 0x20202020, 0x20202020), 20 * k);
        }
        Check.due("feed beyond 400", x.feed(0, 0, 0, 0, 0), NONE);
        Check.due("told 6, full", x.told(6), 400);
        Check.due("text of 400 blanks", x.text(400), 0);
        Check.due("told 6, empty", x.told(6), 0);
        // "a=b;" with the highest byte first; a byte above 127 is none that can stand there
        Check.due("feed", x.feed(0x613d623b, 0xff000000, 0, 0, 0x80000000), 20);
        Check.due("text", x.text(4), 1);
        Check.due("feed", x.feed(0x613d623b, 0xff000000, 0, 0, 0), 20);
        Check.due("text", x.text(5), 1 - 10);
        Check.due("fault", x.fault(), 4);
    }

    private static void text() {
        OddsSolver x = Check.solverOf(LOOP);
        x.first(2, 5);
        x.chance(2, 10);
        Check.due("states", x.told(1), 6);
        Check.due("classes", x.classes(0), 6);
        Check.due("within", x.within(1, 0), 0);
        Check.feed(x, "a=1;b=;");
        Check.noArgument("text(21)", () -> x.text(21));
        Check.noArgument("text(-1)", () -> x.text(-1));
        Check.due("the tape stays", x.told(6), 20);
        Check.due("a fault", x.text(7), 1 - 10);
        Check.due("the tape is empty", x.told(6), 0);
        Check.due("its place", x.fault(), 6);
        Check.due("all stays: statements", x.told(0), 4);
        Check.due("all stays: changes", x.told(7), 2);
        Check.due("all stays: first", x.firstOf(2), 5);
        Check.due("all stays: chance", x.statement(2, 2), 10);
        Check.noArgument("text(1)", () -> x.text(1));
        Check.due("the place stays behind a throw", x.fault(), 6);
        Check.feed(x, "a=1;b=;");
        Check.due("only the first bytes", x.text(4), 1);
        Check.due("the tape is empty", x.told(6), 0);
        Check.due("no fault", x.fault(), NONE);
        Check.due("anew: changes", x.told(7), 0);
        Check.due("anew: first", x.firstOf(2), 0);
        Check.due("anew: undo", x.undo(), NONE);
        Check.due("anew: statements", x.told(0), 1);
        Check.due("anew: states", x.told(1), 2);
        Check.due("anew: odds", x.value(0, 1, 0), 1);
        Check.due("anew: run", x.run(NONE), 0);
        Check.due("anew: classes", x.classes(0), 2);
        Check.due("anew: within", x.within(1, 0), 1);
        Check.due("text(0)", x.text(0), 0);
        Check.due("told 0", x.told(0), 0);
        Check.due("states of none", x.told(1), 1);
        Check.due("odds of none", x.value(0, 1, 0), 0);
    }

    private static void textBlanks() {
        OddsSolver x = new OddsSolver();
        Check.due("blanks", Check.tell(x, "  a = b + 1 ; draw c 10 ; flip 7 { } else { stop ; } "), 4);
        Check.due("no blanks", Check.tell(x, "draw c10;flip7{}else{stop;}while a+1<b-2{}if a#b{}"), 5);
        Check.due("leading zeros", Check.tell(x, "a=007;flip 0060{}draw b 06;"), 3);
        Check.due("their number", x.statement(1, 2), 60);
        Check.due("their number", x.statement(2, 2), 6);
        Check.due("their value", x.value(0, 7, 0), 1);
        Check.due("only blanks", Check.tell(x, "    "), 0);
    }

    private static void faultIs(String text, int kind, int place) {
        OddsSolver x = new OddsSolver();
        Check.due("text of " + text, Check.tell(x, text), kind - 10);
        Check.due("fault of " + text, x.fault(), place);
    }

    private static void textFaults() {
        faultIs("g=1;", 1, 0);
        faultIs("  ab=1;", 1, 2);
        faultIs("a=1  ", 1, 5);
        faultIs("a", 1, 1);
        faultIs("a 1", 1, 2);
        faultIs("a=b+c+d;", 1, 5);
        faultIs("a=b=c;", 1, 3);
        faultIs("a=cdraw b 2;", 1, 2);
        faultIs("a=-1;", 1, 2);
        faultIs("az=1;", 1, 0);
        faultIs("a=bz;", 1, 2);
        faultIs("a=10;", 2, 2);
        faultIs("a=b+ 12;", 2, 5);
        faultIs("a=99999999999999999999;", 2, 2);
        faultIs("a=4294967296;", 2, 2);
        faultIs("drawa 2;", 1, 0);
        faultIs("draw 2 a;", 1, 5);
        faultIs("draw g 2;", 1, 5);
        faultIs("draw a b;", 1, 7);
        faultIs("draw a 1;", 2, 7);
        faultIs("draw a 0;", 2, 7);
        faultIs("draw a 7;", 2, 7);
        faultIs("draw a 8;", 2, 7);
        faultIs("draw a 9;", 2, 7);
        faultIs("draw a 11;", 2, 7);
        faultIs("flip 61{}", 2, 5);
        faultIs("flip {}", 1, 5);
        faultIs("flip a{}", 1, 5);
        faultIs("flip 3;", 1, 6);
        faultIs("flip 3{}else;", 1, 12);
        faultIs("flip 3{}else", 1, 12);
        faultIs("flip 3{}else{}else{}", 1, 14);
        faultIs("while a=1{}else{}", 1, 11);
        faultIs("else{}", 1, 0);
        faultIs("while a{}", 1, 7);
        faultIs("while a=1;", 1, 9);
        faultIs("if a>1{}", 1, 4);
        faultIs("if a<1<2{}", 1, 6);
        faultIs("if a=10{}", 2, 5);
        faultIs("if 61=a{}", 2, 3);
        faultIs("observe a=1{}", 1, 11);
        faultIs("stop", 1, 4);
        faultIs("stop 1;", 1, 5);
        faultIs(";", 1, 0);
        faultIs("}", 1, 0);
        faultIs("if a=1{}}", 1, 8);
        faultIs("if a=1{a=1;", 1, 11);
        faultIs("if a=1{a=1; ", 1, 12);
        faultIs("if a=1{5", 1, 7);
        faultIs("A=1;", 1, 0);
        faultIs("a=1;\n", 1, 4);
        faultIs("a=1;\t", 1, 4);
        faultIs("a=1;\u0000", 1, 4);
        faultIs("5", 1, 0);
        faultIs("{}", 1, 0);
        // of several the first one
        faultIs("a=10;b=;", 2, 2);
        faultIs("b=;a=10;", 1, 2);
        // a number that can't stand there at all is the first of the list, though it is none such too
        faultIs("99=a;", 1, 0);
    }

    private static void textDepthAndCount() {
        OddsSolver x = new OddsSolver();
        String open = "flip 1{".repeat(6);
        Check.due("six blocks", Check.tell(x, open + "a=1;" + "}".repeat(6)), 7);
        Check.due("six blocks, else ones", Check.tell(x, "flip 1{flip 1{}else{" + "if a=1{".repeat(4) + "}".repeat(6)), 6);
        faultIs(open + "if a=1{}", 3, 48);
        faultIs(open + "while a=1 {", 3, 52);
        faultIs(open + "}".repeat(6) + "else{" + "flip 1{".repeat(6), 3, 6 * 7 + 6 + 5 + 41);
        faultIs(open + "flip 1 1{", 1, 49);
        faultIs(open + "{", 1, 42);
        Check.due("forty", Check.tell(x, "a=1;".repeat(40)), 40);
        Check.due("forty, blanks behind", Check.tell(x, "a=1;".repeat(40) + "  "), 40);
        faultIs("a=1;".repeat(40) + " b=10;", 3, 161);
        faultIs("a=1;".repeat(40) + "stop", 3, 160);
        faultIs("a=1;".repeat(40) + "draw", 3, 160);
        faultIs("a=1;".repeat(40) + "g=1;", 1, 160);
        faultIs("a=1;".repeat(40) + "else", 1, 160);
        faultIs("a=1;".repeat(40) + "5", 1, 160);
        faultIs("a=1;".repeat(39) + "if a=1{if", 3, 163);
        faultIs("a=1;".repeat(39) + "if a=1{", 1, 163);
    }

    private static void first() {
        OddsSolver x = Check.solverOf("b=a+1;");
        Check.due("first", x.first(0, 9), 0);
        Check.due("first", x.first(0, 4), 9);
        Check.due("first, the same", x.first(0, 4), 4);
        Check.due("firstOf", x.firstOf(0), 4);
        Check.due("told 7", x.told(7), 3);
        Check.due("state", x.state(0, 1), 4);
        Check.due("value", x.value(1, 5, 0), 1);
        Check.noElement("first(6, 10)", () -> x.first(6, 10));
        Check.noElement("first(-1, 0)", () -> x.first(-1, 0));
        Check.noArgument("first(0, -1)", () -> x.first(0, -1));
        Check.noArgument("first(5, 10)", () -> x.first(5, 10));
        Check.due("told 7", x.told(7), 3);
        Check.due("first of f", x.first(5, 9), 0);
        Check.due("firstOf f", x.firstOf(5), 9);
        Check.noElement("firstOf(6)", () -> x.firstOf(6));
        Check.noElement("firstOf(-1)", () -> x.firstOf(-1));
    }

    private static void chance() {
        OddsSolver x = Check.solverOf("flip 20{a=1;}b=1;");
        Check.due("chance", x.chance(0, 45), 20);
        Check.due("value 1", x.value(0, 1, 1), 3);
        Check.due("value 2", x.value(0, 1, 2), 4);
        Check.due("statement", x.statement(0, 2), 45);
        Check.due("chance", x.chance(0, 60), 45);
        Check.due("arcs", x.state(0, 9), 1);
        Check.due("states", x.told(1), 4);
        Check.due("chance", x.chance(0, 0), 60);
        Check.due("arcs", x.state(0, 9), 1);
        Check.due("states", x.told(1), 3);
        Check.noElement("chance(3, 61)", () -> x.chance(3, 61));
        Check.noElement("chance(-1, 5)", () -> x.chance(-1, 5));
        Check.noArgument("chance(0, 61)", () -> x.chance(0, 61));
        Check.noArgument("chance(0, -1)", () -> x.chance(0, -1));
        Check.noArgument("chance(1, 5)", () -> x.chance(1, 5));
        Check.due("told 7", x.told(7), 3);
    }

    private static void undo() {
        OddsSolver x = Check.solverOf("flip 20{a=1;}");
        for (int k = 0; k < 8; k++) {
            x.first(1, k);
            x.chance(0, k);
        }
        Check.due("told 7", x.told(7), 12);
        Check.due("undo a chance", x.undo(), 11);
        Check.due("chance", x.statement(0, 2), 6);
        Check.due("first", x.firstOf(1), 7);
        Check.due("undo a first", x.undo(), 10);
        Check.due("first", x.firstOf(1), 6);
        Check.due("first anew", x.first(1, 9), 6);
        Check.due("told 7", x.told(7), 11);
        for (int k = 10; k >= 0; k--) {
            Check.due("undo", x.undo(), k);
        }
        Check.due("undo none", x.undo(), NONE);
        Check.due("first, the oldest are lost", x.firstOf(1), 1);
        Check.due("chance, the oldest are lost", x.statement(0, 2), 1);
        Check.due("states as they were", x.state(0, 2), 1);
        for (int k = 0; k < 18; k++) {
            x.first(k % 5, k / 2);
        }
        for (int k = 11; k >= 0; k--) {
            Check.due("undo", x.undo(), k);
            Check.due("each where it was", x.firstOf((k + 1) % 5), (k + 1) / 2);
        }
        Check.due("undo none", x.undo(), NONE);
        Check.tell(x, "a=a;");
        x.first(0, 3);
        x.first(0, 3);
        Check.due("undo of nothing altered", x.undo(), 1);
        Check.due("first", x.firstOf(0), 3);
        Check.due("undo", x.undo(), 0);
        Check.due("first", x.firstOf(0), 0);
    }

    private static void told() {
        OddsSolver x = Check.solverOf(Programs.PAIR);
        int[] dues = {4, 12, 2, 0, 12, 4, 0, 0};
        for (int what = 0; what < 8; what++) {
            int asked = what;
            Check.due("told " + what, () -> x.told(asked), dues[what]);
        }
        Check.noArgument("told(8)", () -> x.told(8));
        Check.noArgument("told(-1)", () -> x.told(-1));
        OddsSolver y = Check.solverOf("flip 20{while 0=0{}}else{flip 30{observe a=1;}}");
        Check.due("states", y.told(1), 6);
        Check.due("ends", y.told(2), 1);
        Check.due("trapped", y.told(3), 1);
        Check.due("arcs", y.told(4), 6);
        Check.due("level", y.told(5), 3);
        // the END and BROKEN are not trapped, a state that may still leave is not
        Check.due("trapped", y.state(1, 8), 1);
        Check.due("trapped", y.state(2, 8), 0);
        Check.due("200 states are not too many", Check.solverOf(Programs.states(200)).told(1), 200);
        Check.due("201 states are", Check.solverOf(Programs.states(201)).told(1), NONE);
    }

    private static void statement() {
        OddsSolver x = Check.solverOf("b=a;draw c 5;flip 7{stop;}if a=1{}while a=1{}observe a=1;");
        int[][] dues = {
            {0, 1, -1, 1, -1}, {1, 2, 5, 2, -1}, {2, -1, 7, 3, 4}, {6, -1, -1, 7, -1},
            {3, -1, -1, 5, 5}, {4, -1, -1, 5, 6}, {5, -1, -1, 7, 8}};
        for (int k = 0; k < dues.length; k++) {
            for (int what = 0; what < 5; what++) {
                Check.due("statement " + k + " " + what, x.statement(k, what), dues[k][what]);
            }
        }
        Check.noElement("statement(7, 0)", () -> x.statement(7, 0));
        Check.noElement("statement(-1, 9)", () -> x.statement(-1, 9));
        Check.noArgument("statement(0, 5)", () -> x.statement(0, 5));
        Check.noArgument("statement(0, -1)", () -> x.statement(0, -1));
    }

    private static void places() {
        // behind the last one of a while's block it is the while, of another block what is behind the whole
        OddsSolver x = Check.solverOf("while a<5{if b=1{a=a+1;}else{flip 9{}else{c=1;}}}d=1;");
        int[][] dues = {{1, 5}, {2, 3}, {0, -1}, {0, 4}, {0, -1}, {6, -1}};
        for (int k = 0; k < dues.length; k++) {
            Check.due("place " + k, x.statement(k, 3), dues[k][0]);
            Check.due("other place " + k, x.statement(k, 4), dues[k][1]);
        }
        OddsSolver y = Check.solverOf("if a=1{while b=1{}}else{}");
        Check.due("place behind all", y.statement(0, 4), 2);
        Check.due("while's place", y.statement(1, 3), 1);
        Check.due("while's other place", y.statement(1, 4), 2);
    }

    private static void state() {
        OddsSolver x = Check.solverOf(Programs.PAIR);
        int[][] dues = {
            {0, 0, 0, 0, 0, 0, 0, 0, 0, 2}, {1, 0, 0, 0, 0, 0, 0, 1, 0, 2}, {1, 1, 0, 0, 0, 0, 0, 1, 0, 2},
            {2, 0, 0, 0, 0, 0, 0, 2, 0, 1}, {2, 0, 1, 0, 0, 0, 0, 2, 0, 1}, {2, 1, 0, 0, 0, 0, 0, 2, 0, 1},
            {2, 1, 1, 0, 0, 0, 0, 2, 0, 1}, {5, 0, 0, 0, 0, 0, 0, 3, 0, 0}, {3, 0, 1, 0, 0, 0, 0, 3, 0, 1},
            {3, 1, 0, 0, 0, 0, 0, 3, 0, 1}, {4, 0, 1, 1, 0, 0, 0, 4, 0, 0}, {4, 1, 0, 1, 0, 0, 0, 4, 0, 0}};
        for (int i = 0; i < dues.length; i++) {
            for (int what = 0; what < 10; what++) {
                Check.due("state " + i + " " + what, x.state(i, what), dues[i][what]);
            }
        }
        x.first(5, 8);
        Check.due("f at START", x.state(0, 6), 8);
        Check.due("f at BROKEN", x.state(7, 6), 0);
        Check.due("f at the END", x.state(11, 6), 8);
        Check.noElement("state(12, 0)", () -> x.state(12, 0));
        Check.noElement("state(-1, 11)", () -> x.state(-1, 11));
        Check.noArgument("state(0, 10)", () -> x.state(0, 10));
        Check.noArgument("state(0, -1)", () -> x.state(0, -1));
    }

    private static void arc() {
        OddsSolver x = Check.solverOf("draw a 3;flip 25{b=1;}");
        int[][] dues = {{1, 20}, {2, 20}, {3, 20}};
        for (int k = 0; k < 3; k++) {
            Check.due("arc", x.arc(0, k, 0), dues[k][0]);
            Check.due("arc", x.arc(0, k, 1), dues[k][1]);
        }
        Check.due("into the block first", x.arc(1, 0, 0), 4);
        Check.due("its sixtieths", x.arc(1, 0, 1), 25);
        Check.due("then the other", x.arc(1, 1, 0), 5);
        Check.due("its sixtieths", x.arc(1, 1, 1), 35);
        Check.due("of others one", x.arc(4, 0, 1), 60);
        x.chance(1, 0);
        Check.due("none of 0 sixtieths", x.arc(1, 0, 1), 60);
        Check.noElement("arc(1, 1, 0)", () -> x.arc(1, 1, 0));
        Check.noElement("arc(0, -1, 0)", () -> x.arc(0, -1, 0));
        Check.noElement("arc(-1, 0, 5)", () -> x.arc(-1, 0, 5));
        Check.noElement("arc(7, 0, 0)", () -> x.arc(7, 0, 0));
        Check.noElement("arc of the END", () -> x.arc(4, 0, 2));
        Check.noArgument("arc(0, 0, 2)", () -> x.arc(0, 0, 2));
        Check.noArgument("arc(0, 0, -1)", () -> x.arc(0, 0, -1));
        OddsSolver y = Check.solverOf("flip 20{}");
        Check.due("two arcs to one state", y.told(4), 2);
        Check.due("two states", y.told(1), 2);
        Check.due("all visits", y.visits(1, 0), 1);
    }

    private static void sums() {
        OddsSolver x = Check.solverOf("a=b+c;d=b-c;e=7-b;f=3;");
        x.first(1, 8);
        x.first(2, 9);
        Check.due("8 + 9", x.value(0, 7, 0), 1);
        Check.due("8 - 9", x.value(3, 9, 0), 1);
        Check.due("7 - 8", x.value(4, 9, 0), 1);
        Check.due("3", x.value(5, 3, 0), 1);
        OddsSolver y = Check.solverOf("if a+1<b{c=1;}if a+1=b{c=c+2;}if a#b-9{c=c+4;}");
        y.first(0, 9);
        Check.due("0 is not less than 0, is it, 9 is another than 1", y.value(2, 6, 0), 1);
        y.first(1, 1);
        Check.due("0 is less than 1, another one, 9 is another than 2", y.value(2, 5, 0), 1);
        y.first(1, 8);
        Check.due("0 is less than 8, 9 is 8 less 9", y.value(2, 1, 0), 1);
    }

    private static void total() {
        OddsSolver x = Check.solverOf("flip 20{while 0=0{}}else{flip 30{observe a=1;}}");
        int[][] dues = {{1, 3}, {1, 3}, {1, 3}};
        for (int what = 0; what < 3; what++) {
            Check.due("total " + what, x.total(what, 1), dues[what][0]);
            Check.due("total " + what, x.total(what, 2), dues[what][1]);
            Check.due("total " + what, x.total(what, 0), 332748118);
        }
        Check.noArgument("total(3, 0)", () -> x.total(3, 0));
        Check.noArgument("total(-1, 0)", () -> x.total(-1, 0));
        Check.noArgument("total(0, 3)", () -> x.total(0, 3));
        Check.noArgument("total(0, -1)", () -> x.total(0, -1));
        // 1/60 four times is no small fraction, three times it would be 1 of 216,000
        OddsSolver y = Check.solverOf("flip 1{flip 1{flip 1{}else{observe 0=1;}}else{observe 0=1;}}else{observe 0=1;}");
        Check.due("no fraction", y.total(0, 1), NONE);
        Check.due("no fraction", y.total(0, 2), NONE);
        y.chance(2, 60);
        Check.due("1 of 3600", y.total(0, 1), 1);
        Check.due("1 of 3600", y.total(0, 2), 3600);
        Check.due("3599 of 3600", y.total(1, 1), 3599);
        // up to 20,000 of each, and no further
        OddsSolver z = Check.solverOf("while 0=0{flip 3{flip 6{flip 6{flip 6{stop;}}}}}");
        Check.due("visits of START", z.visits(0, 1), 20000);
        Check.due("visits of START", z.visits(0, 2), 1);
        Check.due("within 5", z.within(5, 0), 0);
        Check.due("within 6", z.within(6, 2), 20000);
        z.chance(1, 4);
        z.chance(2, 4);
        z.chance(3, 4);
        z.chance(4, 10);
        Check.due("visits of START", z.visits(0, 1), NONE);
        Check.due("visits of START", z.visits(0, 2), NONE);
        Check.due("visits of START", z.visits(0, 0), 20250);
        Check.due("within 6", z.within(6, 1), NONE);
        Check.due("within 6", z.within(6, 2), NONE);
        Check.due("no ends, no states trapped", Check.solverOf("observe 0=1;").total(1, 0), 1);
    }

    private static void value() {
        OddsSolver x = Check.solverOf("draw a 6;observe a#0;");
        Check.due("value 0", x.value(0, 0, 1), 0);
        Check.due("value 0", x.value(0, 0, 2), 1);
        Check.due("value 5", x.value(0, 5, 1), 1);
        Check.due("value 5", x.value(0, 5, 2), 5);
        Check.due("value 6", x.value(0, 6, 0), 0);
        Check.noElement("value(6, 10, 3)", () -> x.value(6, 10, 3));
        Check.noElement("value(-1, 0, 0)", () -> x.value(-1, 0, 0));
        Check.noArgument("value(0, -1, 0)", () -> x.value(0, -1, 0));
        Check.noArgument("value(0, 10, 0)", () -> x.value(0, 10, 0));
        Check.noArgument("value(0, 0, 3)", () -> x.value(0, 0, 3));
        Check.noArgument("value(0, 0, -1)", () -> x.value(0, 0, -1));
        OddsSolver y = Check.solverOf("observe 0=1;");
        Check.noElement("value without ends, wrong", () -> y.value(6, 0, 0));
        Check.noArgument("value without ends, wrong", () -> y.value(0, 10, 0));
        Check.noArgument("value without ends, wrong", () -> y.value(0, 0, 3));
        Check.noState("value without ends", () -> y.value(0, 0, 0));
        Check.noElement("both without ends, wrong", () -> y.both(0, 0, 6, 0, 0));
        Check.noArgument("both without ends, wrong", () -> y.both(0, 0, 1, 10, 0));
        Check.noState("both without ends", () -> y.both(0, 0, 1, 0, 0));
        Check.noElement("mean without ends, wrong", () -> y.mean(6, 0));
        Check.noArgument("mean without ends, wrong", () -> y.mean(0, 3));
        Check.noState("mean without ends", () -> y.mean(0, 0));
        Check.noElement("independent without ends, wrong", () -> y.independent(0, 6));
        Check.noState("independent without ends", () -> y.independent(0, 1));
        Check.due("refused", y.status(2), 4);
        Check.due("within without ends", y.within(5, 0), 0);
    }

    private static void both() {
        OddsSolver x = Check.solverOf("draw a 3;draw b 3;observe a<b;");
        Check.due("both", x.both(0, 0, 1, 1, 1), 1);
        Check.due("both", x.both(0, 0, 1, 1, 2), 3);
        Check.due("both, turned", x.both(1, 1, 0, 0, 2), 3);
        Check.due("both, never", x.both(0, 1, 1, 0, 0), 0);
        Check.due("the same", x.both(0, 0, 0, 0, 1), 2);
        Check.due("the same", x.both(0, 0, 0, 0, 2), 3);
        Check.due("the same, two values", x.both(0, 0, 0, 1, 0), 0);
        Check.noElement("both(6, ..)", () -> x.both(6, 10, 0, 0, 0));
        Check.noElement("both(.., 6, ..)", () -> x.both(0, 10, 6, 0, 5));
        Check.noElement("both(.., -1, ..)", () -> x.both(0, 0, -1, 0, 0));
        Check.noArgument("both x", () -> x.both(0, 10, 1, 0, 0));
        Check.noArgument("both x", () -> x.both(0, -1, 1, 0, 0));
        Check.noArgument("both y", () -> x.both(0, 0, 1, 10, 0));
        Check.noArgument("both y", () -> x.both(0, 0, 1, -1, 0));
        Check.noArgument("both form", () -> x.both(0, 0, 1, 0, 3));
        Check.noArgument("both form", () -> x.both(0, 0, 1, 0, -1));
    }

    private static void mean() {
        OddsSolver x = Check.solverOf("draw a 6;draw b 10;observe a<b;");
        // 9 + 8 + 7 + 6 + 5 + 4 couples; a together 8 + 14 + 18 + 20 + 20
        Check.due("mean of a", x.mean(0, 1), 80);
        Check.due("mean of a", x.mean(0, 2), 39);
        Check.due("mean of c", x.mean(2, 0), 0);
        Check.noElement("mean(6, 3)", () -> x.mean(6, 3));
        Check.noElement("mean(-1, 0)", () -> x.mean(-1, 0));
        Check.noArgument("mean(0, 3)", () -> x.mean(0, 3));
        Check.noArgument("mean(0, -1)", () -> x.mean(0, -1));
    }

    private static void independent() {
        OddsSolver x = Check.solverOf("draw a 2;draw b 3;c=a+b;d=4;");
        Check.due("two draws", x.independent(0, 1), 1);
        Check.due("turned", x.independent(1, 0), 1);
        Check.due("a sum of one", x.independent(0, 2), 0);
        Check.due("one that is sure", x.independent(3, 2), 1);
        Check.due("the same", x.independent(0, 0), 0);
        Check.due("the same, sure", x.independent(3, 3), 1);
        Check.noElement("independent(6, 0)", () -> x.independent(6, 0));
        Check.noElement("independent(0, -1)", () -> x.independent(0, -1));
        OddsSolver y = Check.solverOf("draw a 2;draw b 2;if a+b=2{c=1;}if a=b{d=1;}if a<b{d=1;}");
        Check.due("alike by chance only for some couples", y.independent(0, 3), 0);
    }

    private static void visits() {
        OddsSolver x = Check.solverOf("flip 30{while 0=0{}}while a=0{flip 15{a=1;}}");
        Check.due("START", x.visits(0, 0), 1);
        Check.due("trapped", x.visits(1, 0), -2);
        Check.due("trapped, by its form", x.visits(1, 2), -2);
        Check.due("the while", x.visits(2, 0), 2);
        Check.due("the flip", x.visits(3, 0), 2);
        Check.due("a=1", x.visits(4, 1), 1);
        Check.due("a=1", x.visits(4, 2), 2);
        Check.due("the END", x.visits(6, 2), 2);
        Check.noElement("visits(7, 3)", () -> x.visits(7, 3));
        Check.noElement("visits(-1, 0)", () -> x.visits(-1, 0));
        Check.noArgument("visits(0, 3)", () -> x.visits(0, 3));
        Check.noArgument("visits of a trapped one", () -> x.visits(1, -1));
        OddsSolver y = Check.solverOf("while a=0{flip 15{a=1;}}");
        Check.due("START again", y.visits(0, 0), 4);
        Check.due("all trapped", Check.solverOf("while a=0{}").visits(0, 0), -2);
        Check.due("all trapped: for ever", Check.solverOf("while a=0{}").total(2, 0), 1);
    }

    private static void steps() {
        OddsSolver x = Check.solverOf("while a=0{flip 15{a=1;}}");
        Check.due("steps", x.steps(0), 10);
        Check.due("steps", x.steps(1), 10);
        Check.due("steps", x.steps(2), 1);
        Check.noArgument("steps(3)", () -> x.steps(3));
        Check.noArgument("steps(-1)", () -> x.steps(-1));
        OddsSolver y = Check.solverOf("flip 1{while 0=0{}}");
        Check.due("one is trapped", y.steps(0), -2);
        Check.noArgument("one is trapped", () -> y.steps(3));
        Check.due("broken ones count too", Check.solverOf("flip 30{observe 0=1;}").steps(1), 3);
    }

    private static void within() {
        OddsSolver x = Check.solverOf("while a=0{flip 30{a=1;}}");
        int[][] dues = {{0, 1}, {0, 1}, {0, 1}, {0, 1}, {1, 2}, {1, 2}, {3, 4}, {3, 4}, {7, 8}};
        for (int n = 8; n >= 0; n--) {
            Check.due("within " + n, x.within(n, 1), dues[n][0]);
            Check.due("within " + n, x.within(n, 2), dues[n][1]);
        }
        Check.due("within 30", x.within(30, 2), 16384);
        Check.due("within 32", x.within(32, 2), NONE);
        x.chance(1, 60);
        Check.due("within 200", x.within(200, 0), 1);
        Check.due("within 3", x.within(3, 0), 0);
        Check.due("within 4", x.within(4, 0), 1);
        Check.noArgument("within(201, 0)", () -> x.within(201, 0));
        Check.noArgument("within(-1, 0)", () -> x.within(-1, 0));
        Check.noArgument("within(0, 3)", () -> x.within(0, 3));
        Check.noArgument("within(0, -1)", () -> x.within(0, -1));
    }

    private static void unsolved() {
        OddsSolver x = Check.solverOf(Programs.SINGULAR);
        for (int form = 0; form < 3; form++) {
            Check.due("singular: total", x.total(0, form), -3);
            Check.due("singular: total", x.total(1, form), -3);
            Check.due("singular: total", x.total(2, form), -3);
            Check.due("singular: value", x.value(0, 0, form), -3);
            Check.due("singular: both", x.both(0, 0, 1, 0, form), -3);
            Check.due("singular: mean", x.mean(0, form), -3);
            Check.due("singular: visits", x.visits(0, form), -3);
            Check.due("singular: steps", x.steps(form), -3);
        }
        Check.due("singular: independent", x.independent(0, 1), -3);
        Check.noArgument("singular: form", () -> x.total(0, 3));
        Check.due("singular: within", x.within(2, 0), 0);
        Check.due("singular: within", x.within(4, 2), 60);
        x.chance(1, 58);
        Check.due("no longer singular", x.total(0, 0), 1);
        x.undo();
        Check.due("singular again", x.total(0, 0), -3);
        OddsSolver y = Check.solverOf(Programs.SWAPPED);
        Check.due("another pivot: total", y.total(0, 0), 1);
        Check.due("another pivot: for ever", y.total(2, 0), 0);
        OddsSolver z = Check.solverOf(Programs.NO_ENDED);
        for (int form = 0; form < 3; form++) {
            Check.due("ENDED is 0: value", z.value(0, 1, form), -3);
            Check.due("ENDED is 0: both", z.both(0, 0, 1, 0, form), -3);
            Check.due("ENDED is 0: mean", z.mean(0, form), -3);
        }
        Check.due("ENDED is 0: independent", z.independent(0, 1), -3);
        Check.due("ENDED is 0: BROKEN", z.total(1, 0), 1);
        Check.due("ENDED is 0: steps", z.steps(0) >= 0 ? 1 : 0, 1);
    }

    private static void classes() {
        OddsSolver x = Check.solverOf(Programs.PAIR);
        int[] dues = {0, 1, 1, 2, 3, 3, 2, 4, 5, 5, 6, 6};
        Check.due("classes by c", x.classes(2), 7);
        for (int i = 0; i < dues.length; i++) {
            Check.due("class by c of " + i, x.classOf(2, i), dues[i]);
        }
        Check.due("classes by a", x.classes(0), 11);
        Check.due("classes by f", x.classes(5), 7);
        Check.noElement("classes(6)", () -> x.classes(6));
        Check.noElement("classes(-1)", () -> x.classes(-1));
        Check.noElement("classOf(6, 0)", () -> x.classOf(6, 0));
        Check.noElement("classOf(0, 12)", () -> x.classOf(0, 12));
        Check.noElement("classOf(0, -1)", () -> x.classOf(0, -1));
        // all that are trapped go on alike; END and BROKEN are classes of their own
        OddsSolver y = Check.solverOf("draw a 3;if a=0{while 0=0{b=b+1;}}observe a=1;");
        Check.due("trapped ones are one class", y.classOf(1, y.told(1) - 1), y.classOf(1, 4));
        // sixtieths to one class count together: the draw and the flip are alike
        OddsSolver z = Check.solverOf("flip 1{draw a 4;if a<2{b=1;}a=0;}else{flip 30{b=1;a=0;}else{b=0;a=0;}}");
        Check.due("as many sixtieths", z.classOf(0, 1) == z.classOf(0, 2) ? 1 : 0, 0);
        OddsSolver w = Check.solverOf("flip 7{draw a 4;if a<2{b=1;}}else{draw a 2;if a<1{b=1;}}");
        Check.due("as many sixtieths", w.classOf(1, 1) == w.classOf(1, 2) ? 1 : 0, 1);
        Check.due("but not by a", w.classOf(0, 1) == w.classOf(0, 2) ? 1 : 0, 0);
        w.chance(0, 60);
        Check.due("found anew behind a change", w.classes(0) == w.classes(1) ? 1 : 0, 0);
        w.undo();
        Check.due("and taken back", w.classOf(1, 1) == w.classOf(1, 2) ? 1 : 0, 1);
    }

    private static void run() {
        OddsSolver x = Check.solverOf("draw a 3;flip 50{b=1;}else{stop;}flip 20{c=1;}");
        int[] dues = {0, 1, 0};
        Check.due("run", x.run(NONE), 3);
        for (int k = 0; k < 3; k++) {
            Check.due("run " + k, x.run(k), dues[k]);
        }
        Check.due("run 3", x.run(3), NONE);
        Check.due("run -2", x.run(-2), NONE);
        Check.due("worth", x.worth(), 20L * 50 * 40 * 2799360000000L);
        x.chance(1, 20);
        Check.due("the shorter one", x.run(NONE), 2);
        Check.due("the other one", x.run(1), 0);
        Check.due("worth", x.worth(), 20L * 40 * 167961600000000L);
        Check.due("no run", Check.solverOf("observe a=1;").run(NONE), NONE);
        Check.due("no run", Check.solverOf("observe a=1;").run(0), NONE);
        Check.due("no worth", Check.solverOf("while a=0{}").worth(), NONE);
        // ten draws are a run, eleven are none
        OddsSolver y = Check.solverOf("draw a 2;".repeat(10));
        Check.due("ten draws", y.run(NONE), 10);
        Check.due("worth", y.worth(), 590490000000000L);
        OddsSolver z = Check.solverOf("draw a 2;".repeat(11));
        Check.due("eleven draws", z.run(NONE), NONE);
        Check.due("worth", z.worth(), NONE);
        // a flip of 60 or of 0 is a draw, too
        OddsSolver w = Check.solverOf("flip 60{}flip 0{}".repeat(5));
        Check.due("sure flips", w.run(NONE), 10);
        Check.due("into the block", w.run(0), 1);
        Check.due("into the other", w.run(9), 0);
        Check.due("worth", w.worth(), WHOLE);
        Check.due("eleven sure flips", Check.solverOf("flip 60{}".repeat(11)).run(NONE), NONE);
    }

    private static void runTies() {
        // of like ones with fewest draws
        OddsSolver x = Check.solverOf("flip 30{flip 60{}}else{a=1;}");
        Check.due("fewest", x.run(NONE), 1);
        Check.due("fewest", x.run(0), 0);
        OddsSolver t = Check.solverOf("flip 30{a=1;}else{flip 60{}}");
        Check.due("fewest", t.run(NONE), 1);
        Check.due("fewest", t.run(0), 1);
        // of these the first: a draw's lesser value, a flip's 1
        OddsSolver y = Check.solverOf("flip 30{}draw a 2;");
        Check.due("1 ahead of 0", y.run(0), 1);
        Check.due("0 ahead of 1", y.run(1), 0);
        OddsSolver z = Check.solverOf("draw a 3;observe a#0;flip 30{observe a=2;}");
        Check.due("1 then 0 ahead of 2", z.run(0), 1);
        Check.due("1 then 0 ahead of 2", z.run(1), 0);
        // round a loop: 45 of 60 goes round again, which never is worth it
        OddsSolver w = Check.solverOf("while a<3{flip 15{a=a+1;}}");
        Check.due("three times", w.run(NONE), 3);
        Check.due("worth", w.worth(), 15L * 15 * 15 * 2799360000000L);
        // what is worth more may need more draws than are left for it
        OddsSolver v = Check.solverOf("flip 1{stop;}" + "flip 60{}".repeat(10));
        Check.due("only the poor run is short enough", v.run(NONE), 1);
        Check.due("only the poor run is short enough", v.run(0), 1);
        Check.due("worth", v.worth(), WHOLE / 60);
        OddsSolver u = Check.solverOf("flip 1{stop;}" + "flip 60{}".repeat(9));
        Check.due("the rich one fits", u.run(NONE), 10);
        Check.due("worth", u.worth(), WHOLE / 60 * 59);
    }

    private static void print() {
        OddsSolver x = Check.solverOf("a=1;");
        x.first(5, 4);
        // places 0 and 1, values 000004 and 100004
        Check.due("print", x.print(), ((0L * 31 + 4) * 31 + 1) * 31 + 100004);
        OddsSolver y = Check.solverOf(Programs.PAIR);
        long due = 0;
        for (int i = 0; i < 12; i++) {
            due = 31 * due + y.state(i, 0);
            long values = 0;
            for (int v = 1; v <= 6; v++) {
                values = 10 * values + y.state(i, v);
            }
            due = 31 * due + values;
        }
        Check.due("print", y.print(), due);
        Check.due("print of too many", Check.solverOf(Programs.TOO_MANY).print(), 0);
    }

    private static void status() {
        OddsSolver x = Check.solverOf("observe 0=1;");
        Check.due("none", x.status(0) + x.status(1) + x.status(2), 0);
        Check.noElement("firstOf", () -> x.firstOf(7));
        Check.noElement("first", () -> x.first(7, 99));
        Check.noArgument("told", () -> x.told(99));
        Check.noState("mean", () -> x.mean(0, 0));
        Check.noState("mean", () -> x.mean(0, 0));
        Check.noState("mean", () -> x.mean(0, 0));
        x.feed(0, 0, 0, 0, 0);
        x.text(3);
        x.undo();
        Check.due("status 0", x.status(0), 2);
        Check.due("status 1", x.status(1), 1);
        Check.due("status 2", x.status(2), 3);
        Check.due("status 3", x.status(3), NONE);
        Check.due("status -1", x.status(-1), NONE);
        Check.tell(x, "a=1;");
        Check.due("status 2 stays", x.status(2), 3);
    }

    private static void tooMany() {
        OddsSolver x = Check.solverOf(Programs.TOO_MANY);
        Check.due("told 0", x.told(0), 3);
        for (int what = 1; what < 6; what++) {
            Check.due("told " + what, x.told(what), NONE);
        }
        Check.noState("state", () -> x.state(-1, 99));
        Check.noState("arc", () -> x.arc(-1, 99, 99));
        Check.noState("total", () -> x.total(99, 99));
        Check.noState("value", () -> x.value(99, 99, 99));
        Check.noState("both", () -> x.both(99, 99, 99, 99, 99));
        Check.noState("mean", () -> x.mean(99, 99));
        Check.noState("independent", () -> x.independent(99, 99));
        Check.noState("visits", () -> x.visits(99, 99));
        Check.noState("steps", () -> x.steps(99));
        Check.noState("within", () -> x.within(999, 99));
        Check.noState("classes", () -> x.classes(99));
        Check.noState("classOf", () -> x.classOf(99, 999));
        Check.noState("run", () -> x.run(99));
        Check.noState("worth", () -> x.worth());
        Check.due("status", x.status(2), 14);
        Check.due("first is told all the same", x.first(0, 3), 0);
        Check.due("statement", x.statement(2, 2), 2);
    }
}
