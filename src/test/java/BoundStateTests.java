import java.math.BigInteger;

/** Bounds of STATES and ARCS (promises 8, 11, 12, 25, and "Terms"). */
public final class BoundStateTests {
    private static final int NONE = OddsSolver.NONE;
    private static final int[] FAR_OUT = {Integer.MIN_VALUE, -1000, -2, -1, 1000, Integer.MAX_VALUE};

    public static void main(String[] args) {
        states200();
        states201();
        last200AtTheEnd();
        last200Broken();
        knownOnesAreNoMore();
        mergedAsTheyCome();
        manyArcs();
        tooManyComesAndGoes();
        toldOfTooMany();
        stateBounds();
        stateAheadOfAll();
        startAtTheEnd();
        startOfFirsts();
        placesBeyond();
        brokenIsOne();
        numberedAsTheyCome();
        arcBounds();
        arcsOfDraws();
        arcsOfFlips();
        arcsOfOthers();
        levels();
        trapped();
        printOfAll();
        printOfTooMany();
        Check.close();
    }

    private static void states200() {
        Check.by("Promise 8", "There are TOO MANY, if there would be a 201st STATE.");
        String[] texts = {Programs.states(200), Programs.chain(200), Programs.brokenChain(200), Programs.ring(200)};
        int[] ends = {1, 1, 0, 0};
        int[] levels = {0, 199, 199, 199};
        for (int k = 0; k < texts.length; k++) {
            OddsSolver x = Check.solverOf(texts[k]);
            Check.due("states", x.told(1), 200);
            Check.due("ends", x.told(2), ends[k]);
            Check.due("the greatest level", x.told(5), k == 0 ? x.state(199, 7) : levels[k]);
            Check.due("level of the last", x.state(199, 7) >= x.state(198, 7) ? 1 : 0, 1);
            Check.noElement("state(200, 0)", () -> x.state(200, 0));
            Check.noElement("visits(200, 0)", () -> x.visits(200, 0));
            Check.noElement("classOf(0, 200)", () -> x.classOf(0, 200));
            Check.noElement("arc(200, 0, 0)", () -> x.arc(200, 0, 0));
            Check.due("nothing was refused for its states", x.status(2), 0);
        }
        Check.due("199 of a chain", Check.solverOf(Programs.chain(199)).told(1), 199);
        Check.due("199 of some", Check.solverOf(Programs.states(199)).told(1), 199);
    }

    private static void states201() {
        Check.by("Promise 11", "IllegalStateException: there are TOO MANY (so below, ahead of all others).");
        String[] texts = {Programs.states(201), Programs.chain(201), Programs.brokenChain(201), Programs.ring(201),
            Programs.states(230), Programs.TOO_MANY};
        for (String text : texts) {
            OddsSolver x = Check.solverOf(text);
            Check.due("states", x.told(1), NONE);
            Check.noState("state(0, 0)", () -> x.state(0, 0));
            Check.noState("state(-1, 10)", () -> x.state(-1, 10));
            Check.noState("arc(0, 0, 0)", () -> x.arc(0, 0, 0));
            Check.noState("arc(-1, -1, -1)", () -> x.arc(-1, -1, -1));
            Check.noState("total(3, 3)", () -> x.total(3, 3));
            Check.noState("value(6, 10, 3)", () -> x.value(6, 10, 3));
            Check.noState("both(6, 10, 6, 10, 3)", () -> x.both(6, 10, 6, 10, 3));
            Check.noState("mean(6, 3)", () -> x.mean(6, 3));
            Check.noState("independent(6, 6)", () -> x.independent(6, 6));
            Check.noState("visits(-1, 3)", () -> x.visits(-1, 3));
            Check.noState("steps(3)", () -> x.steps(3));
            Check.noState("within(201, 3)", () -> x.within(201, 3));
            Check.noState("classes(6)", () -> x.classes(6));
            Check.noState("classOf(6, -1)", () -> x.classOf(6, -1));
            Check.noState("run(-1)", () -> x.run(NONE));
            Check.noState("worth()", () -> x.worth());
            Check.due("status(2)", x.status(2), 16);
            Check.due("status(0), status(1)", x.status(0) + x.status(1), 0);
            Check.due("told(7)", x.told(7), 0);
        }
    }

    private static void last200AtTheEnd() {
        Check.by("Promise 11", "1 to 6 VARIABLES a to f, 7 its LEVEL");
        OddsSolver x = Check.solverOf(Programs.chain(200));
        Check.due("its place", x.state(199, 0), x.told(0));
        Check.due("b", x.state(199, 2), 8);
        Check.due("level", x.state(199, 7), 199);
        Check.due("trapped", x.state(199, 8), 0);
        Check.due("arcs", x.state(199, 9), 0);
        Check.due("arcs in all", x.told(4), 199);
        Check.due("leads to the last", x.arc(198, 0, 0), 199);
        Check.due("ended", x.total(0, 0), 1);
        Check.due("steps", x.steps(0), 199);
        Check.due("visits", x.visits(199, 0), 1);
        Check.due("classes", x.classes(0), 200);
        Check.due("classOf", x.classOf(0, 199), 199);
        Check.due("run", x.run(NONE), 0);
    }

    private static void last200Broken() {
        Check.by("Promise 11", "one more: BROKEN) and all VARIABLES (at BROKEN: all 0)");
        OddsSolver x = Check.solverOf(Programs.brokenChain(200));
        Check.due("its place", x.state(199, 0), x.told(0) + 1);
        for (int what = 1; what <= 6; what++) {
            Check.due("its variables", x.state(199, what), 0);
        }
        Check.due("broken", x.total(1, 0), 1);
        Check.due("ends", x.told(2), 0);
        Check.noState("value(0, 0, 0)", () -> x.value(0, 0, 0));
        Check.due("worth", x.worth(), NONE);
    }

    private static void knownOnesAreNoMore() {
        Check.by("Promise 8", "There are TOO MANY, if there would be a 201st STATE.");
        OddsSolver x = Check.solverOf(Programs.ring(200));
        Check.due("states", x.told(1), 200);
        Check.due("the last one leads to START", x.arc(199, 0, 0), 0);
        Check.due("trapped", x.told(3), 200);
        Check.due("arcs", x.told(4), 200);
        Check.due("for ever", x.total(2, 0), 1);
        Check.due("one class", x.classes(3), 1);
        Check.due("steps", x.steps(0), -2);
        Check.due("within(200, 0)", x.within(200, 0), 0);
    }

    private static void mergedAsTheyCome() {
        Check.by("Promise 8", "all states it can come to, merged as they come");
        for (int v = 0; v < 6; v++) {
            for (int w = 0; w < 6; w++) {
                if (v == w) {
                    continue;
                }
                // all 60 couples at each of its three PLACES, each come to by many ways
                String both = "draw " + (char) ('a' + v) + " 10;draw " + (char) ('a' + w) + " 6;";
                OddsSolver x = Check.solverOf("while 0=0{" + both + "}");
                Check.due("states", x.told(1), 180);
                Check.due("arcs", x.told(4), 60 + 600 + 360);
                Check.due("trapped", x.told(3), 180);
                Check.due("classes", x.classes(v), 1);
            }
        }
    }

    private static void manyArcs() {
        Check.by("Promise 8", "4 ARCS in all");
        // 1 + 19 * 10 states; of each but the last ten ten arcs
        OddsSolver x = Check.solverOf("draw a 10;".repeat(19));
        Check.due("states", x.told(1), 191);
        Check.due("arcs", x.told(4), 1810);
        Check.due("ends", x.told(2), 10);
        Check.due("level", x.told(5), 19);
        Check.due("the last arc of all", x.arc(180, 9, 0), 190);
        Check.due("visits", x.visits(190, 2), 10);
        Check.due("ended", x.total(0, 0), 1);
        Check.due("classes", x.classes(0), 19 + 10);
        Check.due("one more: too many", Check.solverOf("draw a 10;".repeat(20)).told(4), NONE);
        // the last ten are at a=0, and then one by one
        OddsSolver y = Check.solverOf("draw a 10;".repeat(18) + "a=0;" + "b=0;".repeat(8));
        Check.due("states", y.told(1), 1 + 18 * 10 + 9);
        Check.due("arcs", y.told(4), 171 * 10 + 10 + 8);
    }

    private static void tooManyComesAndGoes() {
        Check.by("Promise 8", "1 STATES (NONE: TOO MANY)");
        OddsSolver x = Check.solverOf(Programs.chain(201));
        Check.due("states", x.told(1), NONE);
        Check.noState("steps(0)", () -> x.steps(0));
        // with b at 1 there are 22 fewer
        x.first(1, 1);
        Check.due("states", x.told(1), 179);
        Check.due("steps", x.steps(0), 178);
        Check.due("worth", x.worth() > 0 ? 1 : 0, 1);
        x.undo();
        Check.due("states", x.told(1), NONE);
        Check.noState("steps(0)", () -> x.steps(0));
        Check.due("print", x.print(), 0);
        OddsSolver y = Check.solverOf("flip 0{" + Programs.TOO_MANY + "}");
        Check.due("states", y.told(1), 2);
        y.chance(0, 1);
        Check.due("states", y.told(1), NONE);
        Check.noState("total(0, 0)", () -> y.total(0, 0));
        y.chance(0, 0);
        Check.due("total(0, 0)", y.total(0, 0), 1);
        Check.tell(y, Programs.TOO_MANY);
        Check.noState("total(0, 0)", () -> y.total(0, 0));
        Check.due("text with a FAULT", Check.tell(y, "stop"), 1 - 10);
        Check.noState("total(0, 0)", () -> y.total(0, 0));
        Check.tell(y, "stop;");
        Check.due("states", y.told(1), 2);
        Check.due("status(2)", y.status(2), 3);
    }

    private static void toldOfTooMany() {
        Check.by("Promise 8", "5 the greatest LEVEL (2 to 5: NONE if TOO MANY), 6 bytes of the TAPE, 7 how many can be taken back");
        OddsSolver x = Check.solverOf(Programs.TOO_MANY);
        x.first(0, 1);
        Check.feed(x, "a");
        int[] dues = {3, NONE, NONE, NONE, NONE, NONE, 20, 1};
        for (int what = 0; what < dues.length; what++) {
            Check.due("told(" + what + ")", x.told(what), dues[what]);
        }
        Check.noArgument("told(8)", () -> x.told(8));
        Check.noArgument("told(-1)", () -> x.told(-1));
        Check.due("status(2)", x.status(2), 0);
        Check.due("statement(2, 3)", x.statement(2, 3), 3);
        Check.due("firstOf(0)", x.firstOf(0), 1);
        Check.due("undo", x.undo(), 0);
        Check.noArgument("chance(0, 1)", () -> x.chance(0, 1));
    }

    private static void stateBounds() {
        Check.by("Promise 11", "8 1 TRAPPED, 0 not, 9 how many ARCS");
        OddsSolver x = Check.solverOf(Programs.PAIR);
        Check.due("state(11, 9)", x.state(11, 9), 0);
        Check.due("state(11, 0)", x.state(11, 0), 4);
        Check.noElement("state(12, 0)", () -> x.state(12, 0));
        Check.noArgument("state(11, 10)", () -> x.state(11, 10));
        for (int number : FAR_OUT) {
            Check.noElement("state(" + number + ", 0)", () -> x.state(number, 0));
            Check.noElement("state(" + number + ", 10)", () -> x.state(number, 10));
            Check.noArgument("state(0, " + number + ")", () -> x.state(0, number));
        }
        Check.due("status(0)", x.status(0), 1 + 2 * FAR_OUT.length);
        Check.due("status(1)", x.status(1), 1 + FAR_OUT.length);
        Check.tell(x, "stop;");
        Check.noElement("state(2, 0) of a smaller one", () -> x.state(2, 0));
        Check.due("state(1, 0)", x.state(1, 0), 1);
    }

    private static void stateAheadOfAll() {
        Check.by("Promise 11", "there are TOO MANY (so below, ahead of all others)");
        OddsSolver x = Check.solverOf(Programs.TOO_MANY);
        for (int number : FAR_OUT) {
            Check.noState("state", () -> x.state(number, number));
            Check.noState("arc", () -> x.arc(number, number, number));
            Check.noState("run", () -> x.run(number));
            Check.noState("within", () -> x.within(number, number));
        }
        Check.due("status(2)", x.status(2), 4 * FAR_OUT.length);
        // but not ahead of those that ask for no STATE
        Check.noElement("first(6, 10)", () -> x.first(6, 10));
        Check.noElement("statement(3, 0)", () -> x.statement(3, 0));
        Check.noElement("firstOf(6)", () -> x.firstOf(6));
        Check.noArgument("text(1)", () -> x.text(1));
    }

    private static void startAtTheEnd() {
        Check.by("Promise 11", "0 is the START (PLACE 0, each VARIABLE its FIRST value, 0 if none was told)");
        OddsSolver x = new OddsSolver();
        int[] dues = {0, 0, 0, 0, 0, 0, 0, 0, 0, 0};
        for (int what = 0; what < dues.length; what++) {
            Check.due("state(0, " + what + ") without statements", x.state(0, what), dues[what]);
        }
        Check.due("one at the END", x.told(2), 1);
        Check.due("visits", x.visits(0, 0), 1);
        Check.due("steps", x.steps(0), 0);
        Check.due("within(0, 0)", x.within(0, 0), 1);
        Check.due("within(200, 0)", x.within(200, 0), 1);
        Check.due("run", x.run(NONE), 0);
        Check.due("arcs", x.told(4), 0);
    }

    private static void startOfFirsts() {
        Check.by("Promise 11", "each VARIABLE its FIRST value, 0 if none was told");
        OddsSolver x = Check.solverOf("a=1;");
        for (int v = 0; v < 6; v++) {
            x.first(v, 9 - v);
        }
        for (int v = 0; v < 6; v++) {
            Check.due("START", x.state(0, 1 + v), 9 - v);
            Check.due("the END", x.state(1, 1 + v), v == 0 ? 1 : 9 - v);
        }
        x.undo();
        Check.due("f again", x.state(0, 6), 0);
        Check.tell(x, "a=1;");
        for (int v = 0; v < 6; v++) {
            Check.due("START anew", x.state(0, 1 + v), 0);
        }
    }

    private static void placesBeyond() {
        Check.by("Promise 11", "a PLACE (a STATEMENT; as many as there are: the END; one more: BROKEN)");
        OddsSolver x = Check.solverOf("a=1;".repeat(38) + "flip 30{observe 0=1;}");
        Check.due("states", x.told(1), 42);
        Check.due("the last statement", x.state(39, 0), 39);
        Check.due("the END", x.state(40, 0), 40);
        Check.due("BROKEN", x.state(41, 0), 41);
        Check.due("a at the END", x.state(40, 1), 1);
        Check.due("a at BROKEN", x.state(41, 1), 0);
        Check.due("ends", x.told(2), 1);
    }

    private static void brokenIsOne() {
        Check.by("Promise 11", "(at BROKEN: all 0)");
        OddsSolver x = Check.solverOf("draw a 10;observe 0=1;");
        x.first(1, 7);
        x.first(5, 9);
        Check.due("ten and START, and one BROKEN", x.told(1), 12);
        for (int what = 1; what < 7; what++) {
            Check.due("state(11, " + what + ")", x.state(11, what), 0);
        }
        Check.due("its place", x.state(11, 0), 3);
        for (int i = 1; i <= 10; i++) {
            Check.due("leads there", x.arc(i, 0, 0), 11);
        }
        Check.due("visits", x.visits(11, 0), 1);
        Check.due("not trapped", x.state(11, 8), 0);
        Check.due("arcs", x.state(11, 9), 0);
        Check.noElement("arc(11, 0, 0)", () -> x.arc(11, 0, 0));
    }

    private static void numberedAsTheyCome() {
        Check.by("Promise 11", "then, STATE by STATE, those its ARCS lead to");
        // 0 flip; 1 the block's draw, 2 the END with a = 5; 3, 4 the draw's
        OddsSolver x = Check.solverOf("flip 30{draw a 2;}");
        x.first(0, 5);
        int[] places = {0, 1, 2, 2, 2};
        int[] values = {5, 5, 5, 0, 1};
        for (int i = 0; i < 5; i++) {
            Check.due("place of " + i, x.state(i, 0), places[i]);
            Check.due("a of " + i, x.state(i, 1), values[i]);
        }
        x.first(0, 1);
        Check.due("one was there already", x.told(1), 4);
        Check.due("the first of the draw", x.arc(1, 0, 0), 3);
        Check.due("the second one is known", x.arc(1, 1, 0), 2);
        x.chance(0, 0);
        Check.due("not come to at all", x.told(1), 2);
        Check.due("its place", x.state(1, 0), 2);
    }

    private static void arcBounds() {
        Check.by("Promise 12", "Of the k-th ARC of a STATE: 0 the STATE it leads to, 1 its sixtieths.");
        OddsSolver x = Check.solverOf("draw a 10;");
        Check.due("arc(0, 0, 0)", x.arc(0, 0, 0), 1);
        Check.due("arc(0, 9, 0)", x.arc(0, 9, 0), 10);
        Check.due("arc(0, 9, 1)", x.arc(0, 9, 1), 6);
        Check.noElement("arc(0, 10, 0)", () -> x.arc(0, 10, 0));
        Check.noElement("arc(0, 10, 2)", () -> x.arc(0, 10, 2));
        Check.noElement("arc(10, 0, 0), the END", () -> x.arc(10, 0, 0));
        Check.noElement("arc(11, 0, 0)", () -> x.arc(11, 0, 0));
        Check.noArgument("arc(0, 9, 2)", () -> x.arc(0, 9, 2));
        for (int number : FAR_OUT) {
            Check.noElement("arc(" + number + ", 0, 0)", () -> x.arc(number, 0, 0));
            Check.noElement("arc(0, " + number + ", 0)", () -> x.arc(0, number, 0));
            Check.noElement("arc(0, " + number + ", 2)", () -> x.arc(0, number, 2));
            Check.noElement("arc(" + number + ", 0, 2)", () -> x.arc(number, 0, 2));
            Check.noArgument("arc(0, 0, " + number + ")", () -> x.arc(0, 0, number));
        }
        Check.due("status(0)", x.status(0), 4 + 4 * FAR_OUT.length);
        Check.due("status(1)", x.status(1), 1 + FAR_OUT.length);
    }

    private static void arcsOfDraws() {
        Check.by("Promise 12", "of a draw one for each value, from 0 on");
        int[] such = {2, 3, 4, 5, 6, 10};
        for (int most : such) {
            OddsSolver x = Check.solverOf("draw a " + most + ";");
            x.first(0, 9);
            Check.due("arcs", x.state(0, 9), most);
            for (int k = 0; k < most; k++) {
                Check.due("arc(0, " + k + ", 0)", x.arc(0, k, 0), k + 1);
                Check.due("sixtieths", x.arc(0, k, 1), 60 / most);
                Check.due("a", x.state(k + 1, 1), k);
            }
            Check.noElement("arc(0, " + most + ", 0)", () -> x.arc(0, most, 0));
            Check.due("value " + most, x.value(0, most % 10, 0) > 0 ? 1 : 0, most == 10 ? 1 : 0);
        }
    }

    private static void arcsOfFlips() {
        Check.by("Promise 12", "of a flip into its BLOCK, then into the other one, but none of 0 sixtieths");
        for (int n = 0; n <= 60; n++) {
            OddsSolver x = Check.solverOf("flip " + n + "{a=1;}else{a=2;}");
            Check.due("arcs", x.state(0, 9), n == 0 || n == 60 ? 1 : 2);
            Check.due("the first one's sixtieths", x.arc(0, 0, 1), n == 0 ? 60 : n);
            Check.due("the first one's place", x.state(x.arc(0, 0, 0), 0), n == 0 ? 2 : 1);
            if (n > 0 && n < 60) {
                Check.due("the second one's sixtieths", x.arc(0, 1, 1), 60 - n);
                Check.due("the second one's place", x.state(x.arc(0, 1, 0), 0), 2);
            } else {
                Check.noElement("arc(0, 1, 0)", () -> x.arc(0, 1, 0));
            }
            Check.due("states", x.told(1), n == 0 || n == 60 ? 3 : 5);
        }
        OddsSolver y = Check.solverOf("flip 30{}");
        Check.due("two to one STATE", y.state(0, 9), 2);
        Check.due("to the END", y.arc(0, 0, 0), 1);
        Check.due("to the END", y.arc(0, 1, 0), 1);
        Check.due("arcs in all", y.told(4), 2);
    }

    private static void arcsOfOthers() {
        Check.by("Promise 12", "of others one, of 60 sixtieths; of the END and BROKEN none");
        String[] texts = {"b=1;", "if a=0{}", "if a=1{}", "while a=1{}", "while a=0{a=1;}", "observe a=0;", "observe a=1;",
            "stop;"};
        for (String text : texts) {
            OddsSolver x = Check.solverOf(text);
            Check.due("arcs of " + text, x.state(0, 9), 1);
            Check.due("sixtieths of " + text, x.arc(0, 0, 1), 60);
            int last = x.told(1) - 1;
            Check.due("arcs of the last of " + text, x.state(last, 9), 0);
            Check.noElement("arc of the last of " + text, () -> x.arc(last, 0, 0));
        }
    }

    private static void levels() {
        Check.by("Promise 11", "LEVEL of a STATE: the fewest ARCS from START");
        // by the block three arcs, by the other one just one
        OddsSolver x = Check.solverOf("flip 30{c=1;c=0;}d=1;");
        Check.due("START", x.state(0, 7), 0);
        Check.due("into the block", x.state(1, 7), 1);
        Check.due("d=1 by the shorter way", x.state(2, 7), 1);
        Check.due("its place", x.state(2, 0), 3);
        Check.due("the greatest", x.told(5), 2);
        x.chance(0, 60);
        Check.due("d=1 by the only way", x.state(3, 7), 3);
        Check.due("its place", x.state(3, 0), 3);
        Check.due("the greatest", x.told(5), 4);
        Check.due("START alone", new OddsSolver().told(5), 0);
        Check.due("a ring's START", Check.solverOf(Programs.ring(200)).state(0, 7), 0);
        Check.due("the greatest there can be", Check.solverOf(Programs.ring(200)).told(5), 199);
    }

    private static void trapped() {
        Check.by("Promise 11", "TRAPPED is one from which no ARCS lead to the END or BROKEN.");
        OddsSolver x = Check.solverOf("flip 1{while 0=0{b=b+1;}}else{flip 1{observe 0=1;}}");
        for (int i = 0; i < x.told(1); i++) {
            int place = x.state(i, 0);
            Check.due("trapped " + i, x.state(i, 8), place == 1 || place == 2 ? 1 : 0);
        }
        Check.due("trapped ones", x.told(3), 20);
        x.chance(0, 60);
        Check.due("START too", x.state(0, 8), 1);
        Check.due("all of them", x.told(3), x.told(1));
        x.chance(0, 0);
        Check.due("none", x.told(3), 0);
        // by 1 of 60 it still leaves
        OddsSolver y = Check.solverOf("while 0=0{flip 1{stop;}}");
        Check.due("none", y.told(3), 0);
        y.chance(1, 0);
        Check.due("all", y.told(3), 2);
        // to BROKEN alone
        OddsSolver z = Check.solverOf("while 0=0{flip 1{observe 0=1;}}");
        Check.due("none", z.told(3), 0);
        Check.due("without statements", new OddsSolver().told(3), 0);
    }

    private static void printOfAll() {
        Check.by("Promise 25", "31 times what there is, and the PLACE, 31 times that, and all VARIABLES as digits of one number, a first");
        String[] texts = {"", "a=1;", Programs.PAIR, "flip 20{while 0=0{}}else{flip 30{observe a=1;}}"};
        for (String text : texts) {
            OddsSolver x = Check.solverOf(text);
            x.first(0, 1);
            x.first(5, 9);
            Check.due("print of " + text, x.print(), printed(x, 0, x.told(1), BigInteger.ZERO).longValue());
        }
        // more than a long holds; the states are asked of several objects, each by no more than 512 calls
        BigInteger due = BigInteger.ZERO;
        for (int from = 0; from < 200; from += 50) {
            due = printed(Check.solverOf(Programs.chain(200)), from, from + 50, due);
        }
        Check.due("it is more than a long holds", due.bitLength() > 64 ? 1 : 0, 1);
        OddsSolver y = Check.solverOf(Programs.chain(200));
        Check.due("print of 200", y.print(), due.longValue());
        Check.due("print, asked again", y.print(), due.longValue());
    }

    private static BigInteger printed(OddsSolver x, int from, int to, BigInteger before) {
        BigInteger sum = before;
        for (int i = from; i < to; i++) {
            long values = 0;
            for (int what = 1; what <= 6; what++) {
                values = 10 * values + x.state(i, what);
            }
            sum = sum.multiply(BigInteger.valueOf(31)).add(BigInteger.valueOf(x.state(i, 0)));
            sum = sum.multiply(BigInteger.valueOf(31)).add(BigInteger.valueOf(values));
        }
        return sum;
    }

    private static void printOfTooMany() {
        Check.by("Promise 25", "From 0 on, of all STATES (none if TOO MANY)");
        Check.due("a new object", new OddsSolver().print(), 0);
        Check.due("of 201", Check.solverOf(Programs.chain(201)).print(), 0);
        Check.due("of 200", Check.solverOf(Programs.chain(200)).print() == 0 ? 1 : 0, 0);
        OddsSolver x = Check.solverOf(Programs.chain(201));
        Check.due("of 201", x.print(), 0);
        x.first(1, 8);
        Check.due("of 25 behind a change", x.print() == 0 ? 1 : 0, 0);
        x.undo();
        Check.due("of 201 again", x.print(), 0);
        Check.due("nothing was refused", x.status(2), 0);
    }
}
