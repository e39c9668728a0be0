/** Bounds of CLASSES and of the LIKELIEST RUN (promises 21 to 24). */
public final class BoundRunTests {
    private static final int NONE = OddsSolver.NONE;
    private static final int[] FAR_OUT = {Integer.MIN_VALUE, -1000, -2, -1, 1000, Integer.MAX_VALUE};
    private static final long SIXTIES = 604661760000000000L;

    public static void main(String[] args) {
        classesBounds();
        classOfBounds();
        classesOfOne();
        classesOf200();
        classesAtTheEnd();
        classesOfBroken();
        sixtiethsTogether();
        coarsest();
        leastStates();
        runBounds();
        runOfNoDraws();
        runOfTen();
        runOfEleven();
        noRun();
        sureFlipsAreDraws();
        worthBounds();
        mostWorth();
        fewestDraws();
        firstByDraws();
        longerThanFits();
        plainLoops();
        Check.close();
    }

    private static void classesBounds() {
        Check.by("Promise 21", "CLASSES by a VARIABLE: how many.");
        OddsSolver x = Check.solverOf(Programs.PAIR);
        Check.due("classes(0)", x.classes(0), 11);
        Check.due("classes(2)", x.classes(2), 7);
        Check.due("classes(5)", x.classes(5), 7);
        Check.noElement("classes(6)", () -> x.classes(6));
        for (int number : FAR_OUT) {
            Check.noElement("classes(" + number + ")", () -> x.classes(number));
        }
        Check.due("status(0)", x.status(0), 1 + FAR_OUT.length);
        Check.due("classes(0), asked again", x.classes(0), 11);
    }

    private static void classOfBounds() {
        Check.by("Promise 22", "The CLASS of a STATE.");
        OddsSolver x = Check.solverOf(Programs.PAIR);
        Check.due("classOf(5, 11)", x.classOf(5, 11), 6);
        Check.due("classOf(0, 11)", x.classOf(0, 11), 10);
        Check.due("classOf(5, 0)", x.classOf(5, 0), 0);
        Check.noElement("classOf(5, 12)", () -> x.classOf(5, 12));
        Check.noElement("classOf(6, 11)", () -> x.classOf(6, 11));
        for (int number : FAR_OUT) {
            Check.noElement("classOf(" + number + ", 0)", () -> x.classOf(number, 0));
            Check.noElement("classOf(0, " + number + ")", () -> x.classOf(0, number));
        }
        Check.due("status(0)", x.status(0), 2 + 2 * FAR_OUT.length);
    }

    private static void classesOfOne() {
        Check.by("Promise 21", "STATES are in one CLASS, if both are at the END with one value of it, or both are BROKEN, or both have ARCS");
        OddsSolver x = new OddsSolver();
        for (int v = 0; v < 6; v++) {
            Check.due("one state", x.classes(v), 1);
            Check.due("its class", x.classOf(v, 0), 0);
            Check.due("a ring", Check.solverOf(Programs.ring(200)).classes(v), 1);
        }
        Check.due("the last of a ring", Check.solverOf(Programs.ring(200)).classOf(0, 199), 0);
        Check.due("two states", Check.solverOf("stop;").classes(0), 2);
    }

    private static void classesOf200() {
        Check.by("Promise 22", "and to each CLASS as many sixtieths together");
        OddsSolver x = Check.solverOf(Programs.chain(200));
        Check.due("classes", x.classes(5), 200);
        for (int i = 0; i < 200; i++) {
            Check.due("classOf(5, " + i + ")", x.classOf(5, i), i);
        }
        OddsSolver y = Check.solverOf(Programs.brokenChain(200));
        Check.due("classes", y.classes(0), 200);
        Check.due("the last one", y.classOf(0, 199), 199);
    }

    private static void classesAtTheEnd() {
        Check.by("Promise 22", "if both are at the END with one value of it");
        OddsSolver x = Check.solverOf("draw a 10;draw b 2;b=0;");
        // by b: one at the END, one at b=0, one at the second draw, START
        Check.due("by b", x.classes(1), 4);
        // by a: ten of each but START
        Check.due("by a", x.classes(0), 31);
        Check.due("by one never told", x.classes(5), 4);
        int last = x.told(1) - 1;
        Check.due("value 9 by a", x.classOf(0, last), 30);
        Check.due("value 9 by b", x.classOf(1, last), 3);
    }

    private static void classesOfBroken() {
        Check.by("Promise 22", "or both are BROKEN");
        OddsSolver x = Check.solverOf("flip 30{observe 0=1;}");
        // START, the observation, the END, BROKEN
        Check.due("classes", x.classes(0), 4);
        for (int i = 0; i < 4; i++) {
            Check.due("classOf(0, " + i + ")", x.classOf(0, i), i);
        }
        for (int a = 0; a < 10; a++) {
            OddsSolver y = Check.solverOf("flip 30{observe 0=1;}else{stop;}");
            y.first(0, a);
            // START, what is behind its two ways, BROKEN, the END
            Check.due("with a " + a, y.classes(0), 5);
        }
        // the END with all 0 and BROKEN, all 0 too, are no one class
        Check.due("the END", x.state(2, 0), 2);
        Check.due("BROKEN", x.state(3, 0), 3);
    }

    private static void sixtiethsTogether() {
        Check.by("Promise 22", "and to each CLASS as many sixtieths together (the coarsest such)");
        OddsSolver x = Check.solverOf("flip 7{draw a 6;}else{draw a 3;}");
        Check.due("10 each six times, 20 each three times", x.classOf(1, 1) == x.classOf(1, 2) ? 1 : 0, 1);
        Check.due("not by their values", x.classOf(0, 1) == x.classOf(0, 2) ? 1 : 0, 0);
        OddsSolver y = Check.solverOf("flip 7{flip 30{c=1;}else{c=1;}}else{flip 59{c=1;}else{c=1;}}");
        Check.due("30 and 30, 59 and 1", y.classOf(0, 1) == y.classOf(0, 2) ? 1 : 0, 1);
        OddsSolver z = Check.solverOf("flip 7{flip 30{c=1;}}else{flip 31{c=1;}}");
        Check.due("30 and 31", z.classOf(0, 1) == z.classOf(0, 2) ? 1 : 0, 0);
        z.chance(3, 30);
        Check.due("30 and 30", z.classOf(0, 1) == z.classOf(0, 2) ? 1 : 0, 1);
        z.undo();
        Check.due("taken back", z.classOf(0, 1) == z.classOf(0, 2) ? 1 : 0, 0);
    }

    private static void coarsest() {
        Check.by("Promise 22", "(the coarsest such)");
        // a ring and a loop of one: all go on for ever alike
        OddsSolver x = Check.solverOf("flip 30{while 0=0{}}else{while 0=0{a=a+1;b=b+1;}}");
        Check.due("one class", x.classes(0), 1);
        // a flip that stays in the loop and a test that does are alike; if it may leave, each is another one
        OddsSolver y = Check.solverOf("while 0=0{flip 30{}else{stop;}if 0=0{}}");
        Check.due("classes", y.classes(0), 5);
        y.chance(1, 60);
        Check.due("classes", y.classes(0), 1);
        y.undo();
        Check.due("classes", y.classes(0), 5);
    }

    private static void leastStates() {
        Check.by("Promise 22", "numbered by their least STATES");
        OddsSolver x = Check.solverOf(Programs.PAIR);
        for (int v = 0; v < 6; v++) {
            int next = 0;
            for (int i = 0; i < 12; i++) {
                int found = x.classOf(v, i);
                Check.due("no number is left out", found <= next && found >= 0 ? 1 : 0, 1);
                next = Math.max(next, found + 1);
            }
            Check.due("as many as there are", x.classes(v), next);
        }
    }

    private static void runBounds() {
        Check.by("Promise 23", "k NONE: how many DRAWS; its k-th one. NONE: there is no such RUN, k is another number.");
        OddsSolver x = Check.solverOf("draw a 10;flip 59{}draw b 2;");
        Check.due("run(-1)", x.run(NONE), 3);
        Check.due("run(0)", x.run(0), 0);
        Check.due("run(1)", x.run(1), 1);
        Check.due("run(2)", x.run(2), 0);
        Check.due("run(3)", x.run(3), NONE);
        for (int number : FAR_OUT) {
            Check.due("run(" + number + ")", x.run(number), number == NONE ? 3 : NONE);
        }
        for (int k = 4; k <= 12; k++) {
            Check.due("run(" + k + ")", x.run(k), NONE);
        }
        Check.due("nothing was refused", x.status(0) + x.status(1) + x.status(2), 0);
    }

    private static void runOfNoDraws() {
        Check.by("Promise 23", "how many DRAWS; its k-th one");
        String[] texts = {"", "stop;", "a=1;if a=1{b=2;}", Programs.chain(200)};
        for (String text : texts) {
            OddsSolver x = Check.solverOf(text);
            Check.due("run(-1)", x.run(NONE), 0);
            Check.due("run(0)", x.run(0), NONE);
            Check.due("worth", x.worth(), SIXTIES);
        }
    }

    private static void runOfTen() {
        Check.by("Promise 23", "at most 10");
        OddsSolver x = Check.solverOf("draw a 2;".repeat(9) + "flip 1{}else{observe 0=1;}");
        Check.due("run(-1)", x.run(NONE), 10);
        for (int k = 0; k < 9; k++) {
            Check.due("run(" + k + ")", x.run(k), 0);
        }
        Check.due("run(9)", x.run(9), 1);
        Check.due("run(10)", x.run(10), NONE);
        long due = 1;
        for (int k = 0; k < 9; k++) {
            due *= 30;
        }
        Check.due("worth", x.worth(), due);
        OddsSolver y = Check.solverOf("flip 30{}".repeat(10));
        Check.due("ten flips", y.run(NONE), 10);
        Check.due("the last one", y.run(9), 1);
    }

    private static void runOfEleven() {
        Check.by("Promise 24", "Its WORTH; NONE: there is none.");
        String[] texts = {"draw a 2;".repeat(11), "flip 60{}".repeat(11), "flip 0{}".repeat(11), "flip 30{}".repeat(40),
            "while b<9{draw a 2;b=b+1;}draw a 2;draw a 2;"};
        for (String text : texts) {
            OddsSolver x = Check.solverOf(text);
            Check.due("it ends", x.total(0, 0), 1);
            Check.due("worth", x.worth(), NONE);
            Check.due("run(-1)", x.run(NONE), NONE);
            Check.due("run(0)", x.run(0), NONE);
            Check.due("nothing was refused", x.status(2), 0);
        }
        OddsSolver y = Check.solverOf("while b<9{draw a 2;b=b+1;}draw a 2;draw a 2;");
        y.first(1, 1);
        Check.due("one less", y.run(NONE), 10);
        Check.due("worth", y.worth(), 590490000000000L);
        y.undo();
        Check.due("eleven again", y.worth(), NONE);
    }

    private static void noRun() {
        Check.by("Promise 23", "NONE: there is no such RUN");
        String[] texts = {"observe 0=1;", "while 0=0{}", "draw a 2;observe a=2;", "flip 30{while 0=0{}}else{observe 0=1;}"};
        for (String text : texts) {
            OddsSolver x = Check.solverOf(text);
            for (int k = -2; k <= 10; k++) {
                Check.due("run(" + k + ") of " + text, x.run(k), NONE);
            }
            Check.due("worth of " + text, x.worth(), NONE);
            Check.due("nothing was refused", x.status(2), 0);
        }
        OddsSolver z = Check.solverOf(Programs.chain(200));
        for (String text : texts) {
            Check.due("one", z.run(NONE), 0);
            Check.tell(z, text);
            Check.due("none behind it", z.run(NONE), NONE);
            Check.due("none behind it", z.worth(), NONE);
            Check.tell(z, Programs.chain(200));
        }
        OddsSolver y = Check.solverOf("flip 60{observe 0=1;}");
        Check.due("none", y.run(NONE), NONE);
        y.chance(0, 59);
        Check.due("by 1 of 60", y.run(NONE), 1);
        Check.due("by 1 of 60", y.run(0), 0);
        Check.due("worth", y.worth(), SIXTIES / 60);
    }

    private static void sureFlipsAreDraws() {
        Check.by("Promise 23", "(draw and flip STATEMENTS gone through, each with the value drawn, or 1 into the BLOCK, 0 into the other)");
        OddsSolver x = Check.solverOf("flip 60{flip 0{}}else{flip 0{}}draw a 10;");
        Check.due("run(-1)", x.run(NONE), 3);
        Check.due("run(0)", x.run(0), 1);
        Check.due("run(1)", x.run(1), 0);
        Check.due("run(2)", x.run(2), 0);
        Check.due("worth", x.worth(), SIXTIES / 10);
        x.chance(0, 0);
        Check.due("run(0)", x.run(0), 0);
        Check.due("worth", x.worth(), SIXTIES / 10);
        OddsSolver y = Check.solverOf("draw a 10;observe a=9;");
        Check.due("the value drawn", y.run(0), 9);
        Check.due("worth", y.worth(), SIXTIES / 10);
    }

    private static void worthBounds() {
        Check.by("Promise 24", "the sixtieths of its DRAWS multiplied, and by 60 for each DRAW that 10 are more");
        OddsSolver x = Check.solverOf("flip 1{}else{observe 0=1;}".repeat(10));
        Check.due("the least there is", x.worth(), 1);
        Check.due("its draws", x.run(NONE), 10);
        for (int k = 0; k < 10; k++) {
            Check.due("run(" + k + ")", x.run(k), 1);
        }
        Check.due("the greatest there is", new OddsSolver().worth(), SIXTIES);
        Check.due("ten sure ones", Check.solverOf("flip 60{}".repeat(10)).worth(), SIXTIES);
        long due = SIXTIES;
        for (int n = 1; n <= 10; n++) {
            due = due / 60 * 59;
            OddsSolver y = Check.solverOf("flip 59{}else{observe 0=1;}".repeat(n));
            Check.due(n + " of 59", y.worth(), due);
        }
    }

    private static void mostWorth() {
        Check.by("Promise 23", "The LIKELIEST: with most WORTH");
        OddsSolver x = Check.solverOf("flip 29{a=1;}else{a=2;}");
        Check.due("31 ahead of 29", x.run(0), 0);
        x.chance(0, 31);
        Check.due("31 ahead of 29", x.run(0), 1);
        Check.due("worth", x.worth(), SIXTIES / 60 * 31);
        // 20 of 60 at once, or 40 and then 31 of 60: more by 40 in 3,600
        OddsSolver y = Check.solverOf("flip 20{stop;}flip 31{stop;}else{observe 0=1;}");
        Check.due("the longer one", y.run(NONE), 2);
        y.chance(2, 30);
        Check.due("alike: the shorter one", y.run(NONE), 1);
        y.chance(2, 29);
        Check.due("the shorter one", y.run(NONE), 1);
        Check.due("into the block", y.run(0), 1);
    }

    private static void fewestDraws() {
        Check.by("Promise 23", "of like ones with fewest DRAWS");
        OddsSolver x = Check.solverOf("flip 30{flip 60{flip 60{}}}else{flip 60{}}");
        Check.due("two", x.run(NONE), 2);
        Check.due("though 1 is ahead of 0", x.run(0), 0);
        OddsSolver y = Check.solverOf("draw a 2;if a=0{flip 60{}}");
        Check.due("one", y.run(NONE), 1);
        Check.due("though 0 is ahead of 1", y.run(0), 1);
    }

    private static void firstByDraws() {
        Check.by("Promise 23", "of these the first by what its DRAWS are (of a draw the lesser value first, of a flip 1 ahead of 0)");
        OddsSolver x = Check.solverOf("flip 30{draw a 10;}else{draw a 10;}");
        Check.due("1 ahead of 0", x.run(0), 1);
        Check.due("the lesser value", x.run(1), 0);
        OddsSolver y = Check.solverOf("draw a 10;observe 7<a;flip 30{observe a=9;}");
        // 8 with 0, 9 with 1, 9 with 0: the first draw tells first
        Check.due("the lesser value", y.run(0), 8);
        Check.due("then 0", y.run(1), 0);
        OddsSolver z = Check.solverOf("flip 30{flip 30{observe 0=1;}}else{flip 30{}}");
        Check.due("1 then 0 ahead of 0 then 1", z.run(0), 1);
        Check.due("1 then 0 ahead of 0 then 1", z.run(1), 0);
        OddsSolver w = Check.solverOf("flip 30{}flip 30{}flip 30{}");
        for (int k = 0; k < 3; k++) {
            Check.due("two arcs to one state: 1", w.run(k), 1);
        }
        w.chance(1, 29);
        Check.due("two arcs to one state: the richer one", w.run(1), 0);
    }

    private static void longerThanFits() {
        Check.by("Promise 23", "by its DRAWS .. at most 10");
        OddsSolver x = Check.solverOf("flip 1{stop;}" + "flip 60{}".repeat(9));
        Check.due("ten draws fit", x.run(NONE), 10);
        Check.due("worth", x.worth(), SIXTIES / 60 * 59);
        OddsSolver y = Check.solverOf("flip 1{stop;}" + "flip 60{}".repeat(10));
        Check.due("eleven do not", y.run(NONE), 1);
        Check.due("worth", y.worth(), SIXTIES / 60);
        // one state come to with nine left, or with eight: the rich tail of nine draws fits behind the poor way alone
        OddsSolver z = Check.solverOf("flip 2{}else{flip 60{}}" + "flip 1{stop;}" + "flip 60{}".repeat(8));
        Check.due("the poor way, the rich tail", z.run(NONE), 10);
        Check.due("the poor way", z.run(0), 1);
        Check.due("worth", z.worth(), SIXTIES / 3600 * 2 * 59);
        z.chance(0, 1);
        Check.due("alike: the rich way, the poor tail", z.run(NONE), 3);
        Check.due("the rich way", z.run(0), 0);
        Check.due("the poor tail", z.run(2), 1);
        Check.due("worth", z.worth(), SIXTIES / 3600 * 59);
    }

    private static void plainLoops() {
        Check.by("Promise 23", "A RUN from START to the END");
        // 190 steps without a draw, then one
        OddsSolver x = Check.solverOf(Programs.chain(190) + "draw d 6;");
        Check.due("one draw", x.run(NONE), 1);
        Check.due("worth", x.worth(), SIXTIES / 6);
        // round a loop without a draw there is no end; round one with draws there is
        OddsSolver y = Check.solverOf("flip 59{while 0=0{a=a+1;}}");
        Check.due("the poor one", y.run(0), 0);
        Check.due("worth", y.worth(), SIXTIES / 60);
        OddsSolver z = Check.solverOf("while a<5{flip 1{a=a+1;}}");
        Check.due("five times 1", z.run(NONE), 5);
        Check.due("worth", z.worth(), SIXTIES / 777600000L);
        z.first(0, 5);
        Check.due("not at all", z.run(NONE), 0);
    }
}
