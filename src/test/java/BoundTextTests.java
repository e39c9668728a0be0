/** Bounds of the TAPE, of texts and of their FAULTS (promises 2, 3, 4, and what a TEXT is). */
public final class BoundTextTests {
    private static final int NONE = OddsSolver.NONE;
    private static final int BLANKS = 0x20202020;

    public static void main(String[] args) {
        feedFull();
        feedOrder();
        textOfNothing();
        textBeyondTape();
        textOfSome();
        textTellsAnew();
        textLeavesAll();
        textOf400();
        faultOfLatest();
        faultAheadOfAny();
        statements40();
        statement41();
        blocks6();
        variables();
        terms();
        draws();
        flips();
        longNumbers();
        words();
        blanks();
        otherSigns();
        sums();
        blocksTold();
        tooEarly();
        leastByte();
        ofOneByte();
        Check.close();
    }

    /** On a new object: what text() and fault() answer. */
    private static void faultIs(String text, int kind, int place) {
        OddsSolver x = new OddsSolver();
        Check.due("text of '" + text + "'", Check.tell(x, text), kind - 10);
        Check.due("fault of '" + text + "'", x.fault(), place);
        Check.due("statements behind '" + text + "'", x.told(0), 0);
        Check.due("the tape behind '" + text + "'", x.told(6), 0);
    }

    private static void tells(String text, int statements) {
        OddsSolver x = new OddsSolver();
        Check.due("text of '" + text + "'", Check.tell(x, text), statements);
        Check.due("fault of '" + text + "'", x.fault(), NONE);
        Check.due("statements of '" + text + "'", x.told(0), statements);
        Check.due("the tape behind '" + text + "'", x.told(6), 0);
    }

    private static void feedFull() {
        Check.by("Promise 2", "NONE, doing nothing, if there would be more than 400");
        OddsSolver x = new OddsSolver();
        for (int k = 1; k < 20; k++) {
            Check.due("feed", x.feed(BLANKS, BLANKS, BLANKS, BLANKS, BLANKS), 20 * k);
        }
        Check.due("told(6) ahead of the last", x.told(6), 380);
        // "a=1;" as the last four bytes
        Check.due("feed of the last twenty", x.feed(BLANKS, BLANKS, BLANKS, BLANKS, 0x613d313b), 400);
        Check.due("feed beyond", x.feed(0x623d323b, 0, 0, 0, 0), NONE);
        Check.due("feed beyond, once more", x.feed(0, 0, 0, 0, 0x7f7f7f7f), NONE);
        Check.due("told(6) behind them", x.told(6), 400);
        Check.due("nothing was refused", x.status(0) + x.status(1) + x.status(2), 0);
        Check.due("text of all", x.text(400), 1);
        Check.due("its variable", x.statement(0, 1), 0);
        Check.due("told(6)", x.told(6), 0);
        Check.due("feed anew", x.feed(0x623d323b, 0, 0, 0, 0), 20);
        Check.due("text anew", x.text(4), 1);
        Check.due("its variable", x.statement(0, 1), 1);
    }

    private static void feedOrder() {
        Check.by("Promise 2", "Twenty bytes come on the TAPE, of each number the highest first");
        OddsSolver x = new OddsSolver();
        Check.due("feed", x.feed(0x613d313b, 0x623d323b, 0x633d333b, 0x643d343b, 0x653d353b), 20);
        Check.due("text", x.text(20), 5);
        for (int v = 0; v < 5; v++) {
            Check.due("value", x.value(v, v + 1, 0), 1);
        }
        int[] highest = {Integer.MIN_VALUE, -1, 0xff202020, 0x80202020};
        for (int number : highest) {
            OddsSolver y = new OddsSolver();
            y.feed(BLANKS, BLANKS, BLANKS, BLANKS, number);
            Check.due("text with a byte above 127", y.text(20), 1 - 10);
            Check.due("its place", y.fault(), 16);
        }
        OddsSolver z = new OddsSolver();
        z.feed(0x613d3120, BLANKS, BLANKS, BLANKS, BLANKS);
        Check.due("feed of a second row", z.feed(0x3b202020, BLANKS, BLANKS, BLANKS, BLANKS), 40);
        Check.due("text over both", z.text(21), 1);
    }

    private static void textOfNothing() {
        Check.by("Promise 3", "The first n bytes of the TAPE (empty then) tell the PROGRAM anew");
        OddsSolver x = new OddsSolver();
        Check.due("text(0), nothing fed", x.text(0), 0);
        Check.due("told(1)", x.told(1), 1);
        Check.tell(x, Programs.PAIR);
        Check.due("told(0)", x.told(0), 4);
        Check.feed(x, "a=1;");
        Check.due("text(0) of twenty", x.text(0), 0);
        Check.due("the tape", x.told(6), 0);
        Check.due("told(0)", x.told(0), 0);
        Check.due("states", x.told(1), 1);
        Check.due("state(0, 0)", x.state(0, 0), 0);
        Check.due("it is at the END", x.told(2), 1);
        Check.due("fault", x.fault(), NONE);
        Check.noArgument("text(1) of none", () -> x.text(1));
    }

    private static void textBeyondTape() {
        Check.by("Promise 3", "IllegalArgumentException: n is not 0 to the TAPE's bytes (it stays).");
        OddsSolver x = new OddsSolver();
        Check.noArgument("text(1), nothing fed", () -> x.text(1));
        Check.noArgument("text(-1), nothing fed", () -> x.text(-1));
        Check.feed(x, "b=7;");
        Check.noArgument("text(-1)", () -> x.text(-1));
        Check.noArgument("text(21)", () -> x.text(21));
        Check.noArgument("text(401)", () -> x.text(401));
        Check.noArgument("text of the least", () -> x.text(Integer.MIN_VALUE));
        Check.noArgument("text of the greatest", () -> x.text(Integer.MAX_VALUE));
        Check.due("the tape", x.told(6), 20);
        Check.due("the program", x.told(0), 0);
        Check.due("fault", x.fault(), NONE);
        Check.due("status", x.status(1), 7);
        Check.due("what was fed is there still", x.text(4), 1);
        Check.due("value", x.value(1, 7, 0), 1);
        Check.noArgument("text(4) of the empty tape", () -> x.text(4));
        Check.feed(x, "a=1;" + " ".repeat(16));
        Check.due("text of all of it", x.text(20), 1);
        Check.feed(x, "a=1;" + " ".repeat(396));
        Check.noArgument("text(401) of 400", () -> x.text(401));
        Check.due("text(400)", x.text(400), 1);
    }

    private static void textOfSome() {
        Check.by("Promise 3", "The first n bytes of the TAPE (empty then)");
        OddsSolver x = new OddsSolver();
        Check.feed(x, "a=1;b=2;");
        Check.due("text(4)", x.text(4), 1);
        Check.due("what is behind them is gone", x.told(6), 0);
        Check.feed(x, "a=1;b=2;");
        Check.due("text(5)", x.text(5), 1 - 10);
        Check.due("it ends too early", x.fault(), 5);
        Check.due("what is behind them is gone", x.told(6), 0);
        Check.feed(x, "a=1;b=2;");
        Check.due("text(8)", x.text(8), 2);
        // a number or a word is as long as the first n bytes let it be
        Check.feed(x, "flip 6000{}");
        Check.due("text(7)", x.text(7), 1 - 10);
        Check.due("its place", x.fault(), 7);
        Check.feed(x, "stops;");
        Check.due("text(4)", x.text(4), 1 - 10);
        Check.due("its place", x.fault(), 4);
    }

    private static void textTellsAnew() {
        Check.by("Promise 3", "(FIRST values are 0, nothing can be taken back)");
        OddsSolver x = Check.solverOf("flip 20{a=1;}");
        x.first(0, 9);
        x.first(5, 4);
        x.chance(0, 7);
        Check.due("text", Check.tell(x, "flip 20{a=1;}"), 2);
        for (int v = 0; v < 6; v++) {
            Check.due("firstOf", x.firstOf(v), 0);
        }
        Check.due("told(7)", x.told(7), 0);
        Check.due("undo", x.undo(), NONE);
        Check.due("firstOf", x.firstOf(5), 0);
        Check.due("its chance", x.statement(0, 2), 20);
        Check.due("START", x.state(0, 6), 0);
        Check.due("value", x.value(0, 1, 2), 3);
        Check.due("first", x.first(0, 3), 0);
        Check.due("told(7)", x.told(7), 1);
    }

    private static void textLeavesAll() {
        Check.by("Promise 3", "or the FAULT less 10 (all stays)");
        OddsSolver x = Check.solverOf("flip 20{a=1;}");
        x.first(2, 9);
        x.chance(0, 7);
        // faults that come late, when most of the text was read
        String[] marred = {"draw a 10;draw b 10;draw c 10;x", "a=1;".repeat(41), "flip 59{c=1;}else{b=1;", "flip 61{}"};
        int[] dues = {1 - 10, 3 - 10, 1 - 10, 2 - 10};
        for (int k = 0; k < marred.length; k++) {
            Check.due("text", Check.tell(x, marred[k]), dues[k]);
            Check.due("the tape", x.told(6), 0);
            Check.due("told(0)", x.told(0), 2);
            Check.due("statement(0, 2)", x.statement(0, 2), 7);
            Check.due("statement(0, 3)", x.statement(0, 3), 1);
            Check.due("firstOf(2)", x.firstOf(2), 9);
            Check.due("told(7)", x.told(7), 2);
            Check.due("told(1)", x.told(1), 4);
            Check.due("value", x.value(0, 1, 2), 60);
        }
        Check.due("nothing was refused", x.status(0) + x.status(1) + x.status(2), 0);
        Check.due("undo", x.undo(), 1);
        Check.due("statement(0, 2)", x.statement(0, 2), 20);
        Check.due("undo", x.undo(), 0);
        Check.due("firstOf(2)", x.firstOf(2), 0);
    }

    private static void textOf400() {
        Check.by("Promise 3, A TEXT", "A TEXT has up to 400 bytes");
        tells(" ".repeat(400), 0);
        tells(" ".repeat(396) + "a=1;", 1);
        tells("draw a 10;".repeat(40), 40);
        tells("flip " + "0".repeat(391) + "60{}", 1);
        faultIs(" ".repeat(397) + "a=1", 1, 400);
        faultIs(" ".repeat(399) + "a", 1, 400);
        faultIs(" ".repeat(399) + ";", 1, 399);
        faultIs("a=1;" + " ".repeat(395) + "5", 1, 399);
        faultIs(" ".repeat(398) + "if", 1, 400);
        faultIs("a".repeat(400), 1, 0);
        faultIs("a=" + "1".repeat(398), 2, 2);
        faultIs("flip 3{" + " ".repeat(393), 1, 400);
    }

    private static void faultOfLatest() {
        Check.by("Promise 4", "The place of the FAULT of the latest text() that threw nothing");
        OddsSolver x = new OddsSolver();
        Check.tell(x, "a=1;b=10;");
        Check.due("fault", x.fault(), 6);
        Check.due("fault, asked again", x.fault(), 6);
        Check.noArgument("text(-1)", () -> x.text(-1));
        Check.noArgument("text(1)", () -> x.text(1));
        Check.due("fault behind those that threw", x.fault(), 6);
        Check.feed(x, "x");
        Check.due("fault behind feed()", x.fault(), 6);
        Check.due("text", x.text(1), 1 - 10);
        Check.due("fault at 0", x.fault(), 0);
        x.first(0, 1);
        x.undo();
        Check.due("fault behind undo()", x.fault(), 0);
    }

    private static void faultAheadOfAny() {
        Check.by("Promise 4", "NONE without one, and ahead of any");
        OddsSolver x = new OddsSolver();
        Check.due("fault of a new object", x.fault(), NONE);
        Check.noArgument("text(1)", () -> x.text(1));
        Check.due("fault behind one that threw", x.fault(), NONE);
        Check.tell(x, "a");
        Check.due("fault", x.fault(), 1);
        Check.tell(x, "a=1;");
        Check.due("fault without one", x.fault(), NONE);
        Check.tell(x, "}");
        Check.due("fault", x.fault(), 0);
        x.text(0);
        Check.due("fault of an empty text", x.fault(), NONE);
    }

    private static void statements40() {
        Check.by("Promise 3, A PROGRAM", "STATEMENTS (at most 40, numbered from 0 on as they begin)");
        tells("a=1;".repeat(39), 39);
        tells("a=1;".repeat(40), 40);
        tells("a=1;".repeat(40) + "   ", 40);
        tells("flip 1{}".repeat(40), 40);
        tells("a=1;".repeat(39) + "flip 1{}else{}", 40);
        tells("a=1;".repeat(34) + "if a=1{".repeat(6) + "}".repeat(6), 40);
        OddsSolver x = Check.solverOf("a=1;".repeat(38) + "while a=0{stop;}");
        Check.due("statement(38, 0)", x.statement(38, 0), 4);
        Check.due("statement(39, 0)", x.statement(39, 0), 6);
        Check.due("the END", x.statement(39, 3), 40);
        Check.due("into the block", x.statement(38, 3), 39);
        Check.due("on", x.statement(38, 4), 40);
        Check.noElement("statement(40, 0)", () -> x.statement(40, 0));
        OddsSolver y = Check.solverOf("if a=0{b=1;flip 7{}else{c=1;}}else{stop;}d=1;");
        int[] kinds = {3, 0, 2, 0, 6, 0};
        for (int k = 0; k < kinds.length; k++) {
            Check.due("as they begin", y.statement(k, 0), kinds[k]);
        }
    }

    private static void statement41() {
        Check.by("Promise 3, FAULTS", "3 a 41st STATEMENT (by its first byte, if one can begin so: one of these words)");
        String forty = "a=1;".repeat(40);
        String[] beginnings = {"a", "f", "draw", "flip", "if", "while", "observe", "stop"};
        for (String word : beginnings) {
            faultIs(forty + word, 3, 160);
            faultIs(forty + "  " + word + "?", 3, 162);
        }
        String[] others = {"g", "z", "else", "drawa", "aa", "sto", "stops", "iff", "{", "}", ";", "=", "0", "41", "A", "\n"};
        for (String other : others) {
            faultIs(forty + other, 1, 160);
        }
        faultIs("a=1;".repeat(39) + "flip 1{b=1;}", 3, 163);
        faultIs("a=1;".repeat(39) + "flip 1{}else{b=1;}", 3, 169);
        faultIs("flip 1{" + "a=1;".repeat(39) + "}stop;", 3, 164);
        faultIs("flip 1{" + "a=1;".repeat(39), 1, 163);
        tells("flip 1{" + "a=1;".repeat(39) + "}", 40);
        // a longer text than any, of the shortest statements
        faultIs("a=1;".repeat(100), 3, 160);
        // what is told of forty stays as it is
        OddsSolver x = Check.solverOf("b=2;".repeat(40));
        Check.due("text of 41", Check.tell(x, forty + "a=1;"), 3 - 10);
        Check.due("told(0)", x.told(0), 40);
        Check.due("value", x.value(1, 2, 0), 1);
        Check.due("text of one", Check.tell(x, "a=3;"), 1);
        Check.due("told(1)", x.told(1), 2);
    }

    private static void blocks6() {
        Check.by("Promise 3, FAULTS", "a \"{\" within six others");
        String[] openers = {"flip 1{", "if a=1{", "while a=1{"};
        for (String opener : openers) {
            String six = opener.repeat(6);
            tells(six + "}".repeat(6), 6);
            tells(six + "a=1;stop;" + "}".repeat(6), 8);
            for (String seventh : openers) {
                int at = six.length() + seventh.length() - 1;
                faultIs(six + seventh, 3, at);
                faultIs(six + seventh + "}".repeat(7), 3, at);
                tells(six + "}" + seventh + "}".repeat(6), 7);
            }
        }
        String six = "if a=1{".repeat(6);
        // an else's block stands where its first one stood, not within it
        tells(six + "}else{" + "}".repeat(6), 6);
        tells("if a=1{}else{".repeat(6) + "}".repeat(6), 6);
        faultIs("if a=1{}else{".repeat(6) + "if a=1 {", 3, 13 * 6 + 7);
        faultIs(six + "}else{flip 1{", 3, 42 + 6 + 6);
        faultIs(six + "}".repeat(6) + six + "while a=1{", 3, 42 + 6 + 42 + 9);
        // blocks that are closed again are none that it stands within
        tells("if a=1{}".repeat(20), 20);
        // where no "{" can stand at all
        faultIs(six + "{", 1, 42);
        faultIs(six + "flip {", 1, 42 + 5);
        faultIs(six + "if a={", 1, 42 + 5);
        faultIs(six + "stop{", 1, 42 + 4);
        faultIs(six + "while a=1", 1, 42 + 9);
    }

    private static void variables() {
        Check.by("Promise 3, VARIABLES", "VARIABLES a to f (0 to 5), each 0 to 9");
        for (int v = 0; v < 6; v++) {
            char name = (char) ('a' + v);
            OddsSolver x = Check.solverOf(name + "=9;draw " + name + " 10;observe " + name + "=" + name + ";");
            Check.due("its number", x.statement(0, 1), v);
            Check.due("its number", x.statement(1, 1), v);
            Check.due("9", x.value(v, 9, 2), 10);
        }
        for (char name = 'g'; name <= 'z'; name++) {
            faultIs(name + "=1;", 1, 0);
            faultIs("a=" + name + ";", 1, 2);
            faultIs("draw " + name + " 2;", 1, 5);
            faultIs("observe a=1+" + name + ";", 1, 12);
        }
        faultIs("`=1;", 1, 0);
        faultIs("a={;", 1, 2);
        faultIs("ab=1;", 1, 0);
        faultIs("a=fa;", 1, 2);
    }

    private static void terms() {
        Check.by("Promise 3, SUM", "a TERM (a VARIABLE, or a number 0 to 9)");
        for (int n = 0; n < 10; n++) {
            OddsSolver x = Check.solverOf("a=" + n + ";");
            Check.due("a=" + n, x.value(0, n, 0), 1);
            tells("a=b+" + n + ";", 1);
            tells("observe " + n + "<" + n + "-" + n + ";", 1);
        }
        int[] beyond = {10, 11, 19, 60, 61, 99, 100, 256, 1000};
        for (int n : beyond) {
            faultIs("a=" + n + ";", 2, 2);
            faultIs("a=1+" + n + ";", 2, 4);
            faultIs("a=b- " + n + ";", 2, 5);
            faultIs("if " + n + "=1{}", 2, 3);
            faultIs("while a=" + n + "{}", 2, 8);
            faultIs("observe a#1-" + n + ";", 2, 12);
        }
        faultIs("a=-1;", 1, 2);
        faultIs("a=+1;", 1, 2);
    }

    private static void draws() {
        Check.by("Promise 3, draw", "(K is 2, 3, 4, 5, 6 or 10)");
        String such = ",2,3,4,5,6,10,";
        for (int k = 0; k < 130; k++) {
            String text = "draw c " + k + ";";
            if (such.contains("," + k + ",")) {
                tells(text, 1);
                Check.due("K of " + text, Check.solverOf(text).statement(0, 2), k);
            } else {
                faultIs(text, 2, 7);
            }
        }
        faultIs("draw c -2;", 1, 7);
        faultIs("draw c ;", 1, 7);
        faultIs("draw c d;", 1, 7);
        faultIs("draw c=2;", 1, 6);
    }

    private static void flips() {
        Check.by("Promise 3, flip", "2 flip N (0 to 60)");
        for (int n = 0; n < 130; n++) {
            String text = "flip " + n + "{}";
            if (n <= 60) {
                tells(text, 1);
                Check.due("N of " + text, Check.solverOf(text).statement(0, 2), n);
            } else {
                faultIs(text, 2, 5);
            }
        }
        faultIs("flip -1{}", 1, 5);
        faultIs("flip 600{}", 2, 5);
        faultIs("flip a{}", 1, 5);
    }

    private static void longNumbers() {
        Check.by("Promise 3, FAULTS", "numbers as many digits .. 2 a number that is none such");
        // as ints or longs with a wrap-around they would be 3, 10, 60
        String[] wrapped = {"4294967299", "4294967306", "4294967356", "18446744073709551619", "18446744073709551626",
            "8589934595", "340282366920938463463374607431768211459", "65539", "259", "1003", "100000000000000000003"};
        for (String number : wrapped) {
            faultIs("a=" + number + ";", 2, 2);
            faultIs("draw a " + number + ";", 2, 7);
            faultIs("flip " + number + "{}", 2, 5);
        }
        faultIs("a=" + "9".repeat(390) + ";", 2, 2);
        faultIs("a=1" + "0".repeat(390) + ";", 2, 2);
        faultIs("draw a 1" + "0".repeat(380) + ";", 2, 7);
        // zeros ahead change no number
        tells("a=" + "0".repeat(390) + "9;", 1);
        tells("draw a 0010;flip 00060{}b=00;", 3);
        faultIs("a=0010;", 2, 2);
        faultIs("draw a 00;", 2, 7);
    }

    private static void words() {
        Check.by("Promise 3, Words", "(V: a to f) are as many small letters as stand there");
        faultIs("drawa 2;", 1, 0);
        faultIs("ifa=1{}", 1, 0);
        faultIs("whilea=1{}", 1, 0);
        faultIs("observea=1;", 1, 0);
        faultIs("stopstop;", 1, 0);
        faultIs("dra a 2;", 1, 0);
        faultIs("flip 3{}els{}", 1, 8);
        faultIs("flip 3{}elsea{}", 1, 8);
        faultIs("if a=1{}elseif a=1{}", 1, 8);
        faultIs("Stop;", 1, 0);
        faultIs("stoP;", 1, 0);
        faultIs("draw aA 2;", 1, 6);
        String[] such = {"draw a 2;", "flip 3{}", "if a=b{}", "while a=b{}", "observe a=b;", "stop;", "else{}"};
        for (String text : such) {
            int letters = text.replaceAll("[^a-z].*", "").length();
            String ahead = text.startsWith("else") ? "flip 3{}" : "";
            for (int k = 0; k < letters; k++) {
                faultIs(ahead + text.substring(0, k) + "x" + text.substring(k + 1), 1, ahead.length());
                faultIs(ahead + text.substring(0, k) + "x" + text.substring(k), 1, ahead.length());
                // of "if" a VARIABLE would be left
                if (letters > 2) {
                    faultIs(ahead + text.substring(0, k) + text.substring(k + 1), 1, ahead.length());
                }
            }
        }
        // a word ends at a digit or a sign, a number at a letter
        tells("draw a2;flip6{}else{stop;}if 1=a{}", 4);
        tells("observe 1=a;", 1);
        tells("draw a10;", 1);
        tells("while1=1{}", 1);
        faultIs("a=1b;", 1, 3);
    }

    private static void blanks() {
        Check.by("Promise 3, Blanks", "blanks (32) may stand ahead of all these and of signs, and at the end");
        tells("  a  =  b  +  1  ;  ", 1);
        tells(" draw  a  10 ; flip  7  {  }  else  {  stop  ;  }  ", 3);
        tells("  if  a  -  1  <  b  {  }  while  a  #  1  {  }  observe  a  =  b  ;  ", 3);
        // but not within a word or a number
        faultIs("dr aw a 2;", 1, 0);
        faultIs("a=b c;", 1, 4);
        faultIs("draw a 1 0;", 2, 7);
        faultIs("flip 6 0{}", 1, 7);
        faultIs("sto p;", 1, 0);
        // other bytes that may look so are none
        char[] none = {0, 9, 10, 11, 12, 13, 31, 127, 133, 160, 255};
        for (char sign : none) {
            faultIs("a=1;" + sign, 1, 4);
            faultIs(sign + "a=1;", 1, 0);
            faultIs("a" + sign + "=1;", 1, 1);
        }
    }

    private static void otherSigns() {
        Check.by("Promise 3, TEST", "SUM ( \"=\" | \"<\" | \"#\" ) SUM");
        for (char sign = 0; sign < 256; sign++) {
            String text = "if a" + sign + "b{}";
            boolean letter = sign >= 'a' && sign <= 'z';
            if (sign == '=' || sign == '<' || sign == '#') {
                tells(text, 1);
            } else if (sign == '+' || sign == '-') {
                faultIs(text, 1, 6);
            } else if (sign == ' ') {
                faultIs(text, 1, 5);
            } else {
                // a letter makes one word of all three
                faultIs(text, 1, letter ? 3 : 4);
            }
        }
        faultIs("if a<=b{}", 1, 5);
        faultIs("if a##b{}", 1, 5);
        faultIs("if a{}", 1, 4);
        faultIs("if a=b=c{}", 1, 6);
    }

    private static void sums() {
        Check.by("Promise 3, SUM", "SUM: TERM [ ( \"+\" | \"-\" ) TERM ]");
        tells("a=b;c=d+e;f=1-2;", 3);
        faultIs("a=b+c+d;", 1, 5);
        faultIs("a=b-c-1;", 1, 5);
        faultIs("a=b+-c;", 1, 4);
        faultIs("a=b+;", 1, 4);
        faultIs("a=;", 1, 2);
        faultIs("a=b*c;", 1, 3);
        faultIs("a=(b);", 1, 2);
        faultIs("observe a+b+c=d;", 1, 11);
        faultIs("observe a=b+c+d;", 1, 13);
        faultIs("observe =b;", 1, 8);
        tells("observe a+1=b-2;", 1);
    }

    private static void blocksTold() {
        Check.by("Promise 3, BLOCK", "BLOCK: \"{\" { STATEMENT } \"}\".");
        tells("flip 3{}flip 3{}else{}if a=1{}if a=1{}else{}while a=1{}", 5);
        faultIs("flip 3 a=1;", 1, 7);
        faultIs("flip 3;", 1, 6);
        faultIs("while a=1;", 1, 9);
        faultIs("while a=1{}else{}", 1, 11);
        faultIs("flip 3{}else{}else{}", 1, 14);
        faultIs("if a=1{}else;", 1, 12);
        faultIs("if a=1{};", 1, 8);
        faultIs("if a=1{}}", 1, 8);
        faultIs("else{}", 1, 0);
        faultIs("stop;else{}", 1, 5);
        faultIs("{stop;}", 1, 0);
        faultIs("}", 1, 0);
        faultIs("stop;;", 1, 5);
    }

    private static void tooEarly() {
        Check.by("Promise 3, FAULTS", "at the length, if the text ends too early");
        String[] early = {"a", "a=", "a=b", "a=b+", "a=b+1", "draw", "draw a", "draw a 2", "flip", "flip 3", "flip 3{",
            "flip 3{stop;", "flip 3{}else", "flip 3{}else{", "flip 3{}else{flip 3{}", "if", "if a", "if a+", "if a+b",
            "if a=", "if a=b", "if a=b{", "while", "while a<1", "while a<1{", "observe", "observe a#b", "stop"};
        for (String text : early) {
            faultIs(text, 1, text.length());
            faultIs(text + "   ", 1, text.length() + 3);
            faultIs("stop; " + text, 1, text.length() + 6);
        }
        // a word that is not whole is one that can't stand there
        faultIs("dra", 1, 0);
        faultIs("stop;whil", 1, 5);
        faultIs("flip 3{}e", 1, 9);
        faultIs("flip 3{}els", 1, 8);
    }

    private static void leastByte() {
        Check.by("Promise 3, FAULTS", "of several the one whose first byte is least");
        faultIs("a=10;g=1;", 2, 2);
        faultIs("g=10;", 1, 0);
        faultIs("a=1g;b=10;", 1, 3);
        faultIs("draw a 7", 2, 7);
        faultIs("draw a 7 7", 2, 7);
        faultIs("flip 61", 2, 5);
        faultIs("flip 61{a=10;", 2, 5);
        faultIs("a=10;" + "a=1;".repeat(40), 2, 2);
        faultIs("a=1;".repeat(40) + "a=10;", 3, 160);
        faultIs("a=1;".repeat(39) + "a=10;" + "a=1;", 2, 158);
        faultIs("a=1;".repeat(39) + "a=1 a=1;", 1, 160);
        faultIs("flip 1{".repeat(6) + "flip 61{", 2, 47);
        faultIs("flip 1{".repeat(6) + "flip 1{flip 61{", 3, 48);
        faultIs("flip 1{".repeat(6) + "flip 1 1{", 1, 49);
        faultIs("a=1;".repeat(34) + "flip 1{".repeat(6) + "flip 1{", 3, 136 + 42);
    }

    private static void ofOneByte() {
        Check.by("Promise 3, FAULTS", "of one byte the first in this list");
        // a number that is none such, where no number can stand
        faultIs("61;", 1, 0);
        faultIs("draw 99 2;", 1, 5);
        faultIs("a=b 10;", 1, 4);
        faultIs("stop 61;", 1, 5);
        // a "{" within six others, where none can stand; a 41st that can't begin so
        faultIs("flip 1{".repeat(6) + "{", 1, 42);
        faultIs("flip 1{".repeat(6) + "a={", 1, 44);
        faultIs("a=1;".repeat(40) + "99", 1, 160);
        faultIs("a=1;".repeat(40) + "else{", 1, 160);
    }
}
