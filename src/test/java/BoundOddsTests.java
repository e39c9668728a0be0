import java.math.BigInteger;

/** Bounds of ODDS, FRACTIONS, FORMS and VISITS (promises 13 to 20, and part ==== 2). */
public final class BoundOddsTests {
    private static final int NONE = OddsSolver.NONE;
    private static final int[] FAR_OUT = {Integer.MIN_VALUE, -1000, -2, -1, 1000, Integer.MAX_VALUE};
    private static final BigInteger P = BigInteger.valueOf(998244353);
    private static final String HALF_LOOP = "while a=0{flip 30{a=1;}}";

    public static void main(String[] args) {
        sixtieths();
        forms();
        formsRefused();
        lowerNumber();
        upperNumber();
        leastLower();
        fractionOfAny();
        fractionOfZero();
        totalBounds();
        brokenWithout();
        forEver();
        valueBounds();
        noStateAtTheEnd();
        behindAllOthers();
        bothBounds();
        bothOfTheSame();
        meanBounds();
        independentBounds();
        independentOfSure();
        visitsBounds();
        startOnceMore();
        visitsOfTrapped();
        stepsOfTrapped();
        stepsOfNone();
        withinBounds();
        withinOfLoops();
        noSolution();
        endedIsZero();
        pivots();
        Check.close();
    }

    /** The number that is upper / lower modulo P. */
    private static int odds(long upper, long lower) {
        return BigInteger.valueOf(upper).multiply(BigInteger.valueOf(lower).modInverse(P)).mod(P).intValue();
    }

    private static void sixtieths() {
        Check.by("Promise 13", "by n sixtieths is n times the inverse of 60");
        for (int n = 0; n <= 60; n++) {
            OddsSolver x = Check.solverOf("flip " + n + "{" + Programs.BREAK + "}");
            Check.due("broken by " + n, x.total(1, 0), odds(n, 60));
            Check.due("ended by " + n, x.total(0, 0), odds(60 - n, 60));
            Check.due("within(1) by " + n, x.within(1, 0), odds(60 - n, 60));
        }
    }

    private static void forms() {
        Check.by("Promise 13", "0 the number, 1 the upper, 2 the lower number of its FRACTION (NONE: none)");
        OddsSolver x = Check.solverOf("draw a 6;observe a#0;");
        Check.due("total", x.total(0, 0), odds(5, 6));
        Check.due("total", x.total(0, 1), 5);
        Check.due("total", x.total(0, 2), 6);
        Check.due("value", x.value(0, 1, 0), odds(1, 5));
        Check.due("value", x.value(0, 1, 1), 1);
        Check.due("value", x.value(0, 1, 2), 5);
        Check.due("both", x.both(0, 1, 1, 0, 0), odds(1, 5));
        Check.due("both", x.both(0, 1, 1, 0, 1), 1);
        Check.due("both", x.both(0, 1, 1, 0, 2), 5);
        Check.due("mean", x.mean(0, 0), 3);
        Check.due("mean", x.mean(0, 1), 3);
        Check.due("mean", x.mean(0, 2), 1);
        Check.due("visits", x.visits(1, 0), odds(1, 6));
        Check.due("visits", x.visits(1, 1), 1);
        Check.due("visits", x.visits(1, 2), 6);
        Check.due("steps", x.steps(0), 2);
        Check.due("steps", x.steps(1), 2);
        Check.due("steps", x.steps(2), 1);
        Check.due("within", x.within(2, 0), odds(5, 6));
        Check.due("within", x.within(2, 1), 5);
        Check.due("within", x.within(2, 2), 6);
    }

    private static void formsRefused() {
        Check.by("Promise 13", "IllegalArgumentException: also another FORM (0 to 2; so below).");
        OddsSolver x = Check.solverOf(Programs.PAIR);
        int[] others = {3, 4, -1, -2, Integer.MIN_VALUE, Integer.MAX_VALUE};
        for (int form : others) {
            Check.noArgument("total", () -> x.total(0, form));
            Check.noArgument("value", () -> x.value(0, 0, form));
            Check.noArgument("both", () -> x.both(0, 0, 1, 0, form));
            Check.noArgument("mean", () -> x.mean(0, form));
            Check.noArgument("visits", () -> x.visits(0, form));
            Check.noArgument("steps", () -> x.steps(form));
            Check.noArgument("within", () -> x.within(0, form));
            Check.noElement("value(6, ..)", () -> x.value(6, 0, form));
            Check.noElement("both(0, 0, 6, ..)", () -> x.both(0, 0, 6, 0, form));
            Check.noElement("mean(6, ..)", () -> x.mean(6, form));
            Check.noElement("visits(12, ..)", () -> x.visits(12, form));
        }
        Check.due("status(1)", x.status(1), 7 * others.length);
        Check.due("status(0)", x.status(0), 4 * others.length);
        // also where the answer would be -2 or -3
        OddsSolver y = Check.solverOf("while 0=0{}");
        Check.noArgument("visits of a trapped one", () -> y.visits(0, 3));
        Check.noArgument("steps with a trapped one", () -> y.steps(3));
        OddsSolver z = Check.solverOf(Programs.SINGULAR);
        Check.noArgument("total, not solved", () -> z.total(0, 3));
        Check.noArgument("value, not solved", () -> z.value(0, 0, -1));
    }

    private static void lowerNumber() {
        Check.by("Promise 14", "the least lower number d from 1 to 20,000");
        // 54 * 18 * 14 * 47 of 60 * 60 * 60 * 60
        OddsSolver x = Check.solverOf("flip 54{flip 18{flip 14{flip 13{}else{a=1;}}}}");
        Check.due("number", x.value(0, 1, 0), odds(987, 20000));
        Check.due("upper", x.value(0, 1, 1), 987);
        Check.due("lower", x.value(0, 1, 2), 20000);
        Check.due("upper", x.value(0, 0, 1), 19013);
        Check.due("lower", x.value(0, 0, 2), 20000);
        // 38 * 60 * 60 * 60 to 22 * 18 * 42 * 26, that is 19,000 to 1,001
        String cut = "else{" + Programs.BREAK + "}";
        OddsSolver y = Check.solverOf("flip 22{flip 18{flip 42{flip 26{}" + cut + "}" + cut + "}" + cut + "}else{a=1;}");
        Check.due("number", y.value(0, 1, 0), odds(19000, 20001));
        Check.due("upper", y.value(0, 1, 1), NONE);
        Check.due("lower", y.value(0, 1, 2), NONE);
        Check.due("upper", y.value(0, 0, 1), NONE);
        Check.due("lower", y.value(0, 0, 2), NONE);
    }

    private static void upperNumber() {
        Check.by("Promise 18", "for which d times it modulo P is 20,000 or less, and that as the upper one; none, if there is no such d");
        OddsSolver x = Check.solverOf("while 0=0{flip 3{flip 6{flip 6{flip 6{stop;}}}}}");
        Check.due("number", x.visits(0, 0), 20000);
        Check.due("upper", x.visits(0, 1), 20000);
        Check.due("lower", x.visits(0, 2), 1);
        // by 1,001 of 20,001 it comes to START once more
        OddsSolver y = Check.solverOf("while 0=0{while a=0{flip 22{flip 18{flip 42{flip 26{a=1;}}}}else{stop;}}a=0;}");
        Check.due("number", y.visits(0, 0), odds(20001, 19000));
        Check.due("upper", y.visits(0, 1), NONE);
        Check.due("lower", y.visits(0, 2), NONE);
        String cut = "else{" + Programs.BREAK + "}";
        OddsSolver z = Check.solverOf("flip 54{flip 27{flip 6{flip 23{}" + cut + "}" + cut + "}" + cut + "}else{a=5;}");
        Check.due("a mean's upper number", z.mean(0, 1), 20000);
        Check.due("a mean's lower number", z.mean(0, 2), 4621);
    }

    private static void leastLower() {
        Check.by("Promise 13", "the least lower number d");
        int[] ns = {30, 20, 45, 12, 54, 59, 1, 60, 0};
        int[] uppers = {1, 1, 3, 1, 9, 59, 1, 1, 0};
        int[] lowers = {2, 3, 4, 5, 10, 60, 60, 1, 1};
        OddsSolver x = Check.solverOf("flip 7{" + Programs.BREAK + "}");
        for (int k = 0; k < ns.length; k++) {
            x.chance(0, ns[k]);
            Check.due("upper of " + ns[k], x.total(1, 1), uppers[k]);
            Check.due("lower of " + ns[k], x.total(1, 2), lowers[k]);
        }
    }

    /** Of numbers of long fractions some are a small one modulo P, some the same less P, some neither. */
    private static void fractionOfAny() {
        Check.by("Promise 20", "for which d times it modulo P is 20,000 or less, and that as the upper one; none, if there is no such d");
        int some = 0;
        for (int n = 1; n < 60; n += 29) {
            OddsSolver x = Check.solverOf("while 0=0{flip " + n + "{stop;}}");
            for (int steps = 3; steps <= 200; steps += 2) {
                long number = x.within(steps, 0);
                int lower = NONE;
                for (int d = 1; d <= 20000 && lower == NONE; d++) {
                    lower = d * number % P.longValue() <= 20000 ? d : NONE;
                }
                long upper = lower == NONE ? NONE : lower * number % P.longValue();
                Check.due("lower of " + number, x.within(steps, 2), lower);
                Check.due("upper of " + number, x.within(steps, 1), upper);
                some += lower == NONE ? 0 : 1;
            }
        }
        Check.due("some have one, some have not", some > 30 && some < 250 ? 1 : 0, 1);
    }

    private static void fractionOfZero() {
        Check.by("Promise 13", "FRACTION of a number: the least lower number d from 1");
        OddsSolver x = Check.solverOf("stop;");
        Check.due("number of 0", x.total(1, 0), 0);
        Check.due("upper of 0", x.total(1, 1), 0);
        Check.due("lower of 0", x.total(1, 2), 1);
        Check.due("upper of 1", x.total(0, 1), 1);
        Check.due("lower of 1", x.total(0, 2), 1);
        Check.due("upper of an empty sum", x.within(0, 1), 0);
        Check.due("lower of an empty sum", x.within(0, 2), 1);
        Check.due("a value never had", x.value(0, 9, 2), 1);
    }

    private static void totalBounds() {
        Check.by("Promise 13", "0 ENDED, 1 BROKEN, 2 FOR EVER.");
        OddsSolver x = Check.solverOf("flip 20{while 0=0{}}else{flip 15{observe a=1;}}");
        int[] uppers = {1, 1, 1};
        int[] lowers = {2, 6, 3};
        for (int what = 0; what < 3; what++) {
            Check.due("total(" + what + ", 1)", x.total(what, 1), uppers[what]);
            Check.due("total(" + what + ", 2)", x.total(what, 2), lowers[what]);
            Check.due("total(" + what + ", 0)", x.total(what, 0), odds(uppers[what], lowers[what]));
        }
        Check.noArgument("total(3, 0)", () -> x.total(3, 0));
        for (int what : FAR_OUT) {
            Check.noArgument("total(" + what + ", 0)", () -> x.total(what, 0));
        }
        Check.due("status(1)", x.status(1), 1 + FAR_OUT.length);
    }

    private static void brokenWithout() {
        Check.by("Promise 13", "BROKEN: VISITS of the one there (0 without)");
        OddsSolver x = Check.solverOf("observe a=0;");
        Check.due("no BROKEN", x.total(1, 0), 0);
        Check.due("ended", x.total(0, 0), 1);
        x.first(0, 1);
        Check.due("nothing but BROKEN", x.total(1, 0), 1);
        Check.due("ended", x.total(0, 0), 0);
        Check.due("for ever", x.total(2, 0), 0);
        Check.due("without statements", new OddsSolver().total(1, 0), 0);
        Check.due("trapped", Check.solverOf("while 0=0{}").total(1, 0), 0);
    }

    private static void forEver() {
        Check.by("Promise 13", "FOR EVER: 1 less both");
        OddsSolver x = Check.solverOf("flip 30{while 0=0{}}flip 30{observe 0=1;}");
        for (int n = 0; n <= 60; n++) {
            x.chance(0, n);
            Check.due("by " + n + " sixtieths", x.total(2, 0), odds(n, 60));
        }
        Check.due("nothing else", x.total(0, 0) + x.total(1, 0), 0);
        // a loop that ends by 1 of 60 each time is none for ever
        Check.due("a loop", Check.solverOf("while 0=0{flip 1{stop;}}").total(2, 0), 0);
    }

    private static void valueBounds() {
        Check.by("Promise 14", "ODDS that a VARIABLE is x (0 to 9) at the END.");
        OddsSolver x = Check.solverOf("draw f 10;");
        Check.due("value(5, 0, 2)", x.value(5, 0, 2), 10);
        Check.due("value(5, 9, 2)", x.value(5, 9, 2), 10);
        Check.due("value(0, 0, 0)", x.value(0, 0, 0), 1);
        Check.due("value(0, 9, 0)", x.value(0, 9, 0), 0);
        Check.noArgument("value(5, 10, 2)", () -> x.value(5, 10, 2));
        Check.noElement("value(6, 9, 2)", () -> x.value(6, 9, 2));
        Check.noElement("value(6, 10, 3)", () -> x.value(6, 10, 3));
        for (int number : FAR_OUT) {
            Check.noArgument("value(0, " + number + ", 0)", () -> x.value(0, number, 0));
            Check.noElement("value(" + number + ", 0, 0)", () -> x.value(number, 0, 0));
            Check.noElement("value(" + number + ", 10, 3)", () -> x.value(number, 10, 3));
        }
        // given that it ends: neither what is BROKEN nor what goes on counts
        OddsSolver y = Check.solverOf("draw a 3;if a=0{while 0=0{}}observe a=1;");
        Check.due("ended by", y.total(0, 2), 3);
        Check.due("surely 1", y.value(0, 1, 0), 1);
        Check.due("never 2", y.value(0, 2, 0), 0);
    }

    private static void noStateAtTheEnd() {
        Check.by("Promise 14", "IllegalStateException: also no STATE is at the END (so both(), mean(), independent(); behind all others then).");
        String[] texts = {"observe 0=1;", "while 0=0{}", "flip 30{while 0=0{}}else{observe 0=1;}"};
        for (String text : texts) {
            OddsSolver x = Check.solverOf(text);
            Check.due("ends", x.told(2), 0);
            Check.noState("value", () -> x.value(0, 0, 0));
            Check.noState("both", () -> x.both(0, 0, 1, 0, 0));
            Check.noState("mean", () -> x.mean(0, 0));
            Check.noState("independent", () -> x.independent(0, 1));
            Check.due("status(2)", x.status(2), 4);
            // these ask for none
            Check.due("total", x.total(0, 0), 0);
            Check.due("within", x.within(200, 0), 0);
            Check.due("classes", x.classes(0) > 0 ? 1 : 0, 1);
            Check.due("run", x.run(NONE), NONE);
            Check.due("worth", x.worth(), NONE);
            Check.due("status(2)", x.status(2), 4);
        }
        OddsSolver y = Check.solverOf("flip 60{observe 0=1;}");
        Check.noState("value", () -> y.value(0, 0, 0));
        y.chance(0, 59);
        Check.due("by 1 of 60", y.value(0, 0, 0), 1);
        y.undo();
        Check.noState("value", () -> y.value(0, 0, 0));
    }

    private static void behindAllOthers() {
        Check.by("Promise 14", "behind all others then");
        OddsSolver x = Check.solverOf("observe 0=1;");
        Check.noElement("value(6, 10, 3)", () -> x.value(6, 10, 3));
        Check.noElement("value(-1, 0, 0)", () -> x.value(-1, 0, 0));
        Check.noArgument("value(0, 10, 0)", () -> x.value(0, 10, 0));
        Check.noArgument("value(0, 0, 3)", () -> x.value(0, 0, 3));
        Check.noElement("both(6, 10, 0, 0, 3)", () -> x.both(6, 10, 0, 0, 3));
        Check.noElement("both(0, 10, 6, 10, 3)", () -> x.both(0, 10, 6, 10, 3));
        Check.noArgument("both(0, 10, 1, 0, 0)", () -> x.both(0, 10, 1, 0, 0));
        Check.noArgument("both(0, 0, 1, 10, 0)", () -> x.both(0, 0, 1, 10, 0));
        Check.noArgument("both(0, 0, 1, 0, 3)", () -> x.both(0, 0, 1, 0, 3));
        Check.noElement("mean(6, 3)", () -> x.mean(6, 3));
        Check.noArgument("mean(0, 3)", () -> x.mean(0, 3));
        Check.noElement("independent(6, 0)", () -> x.independent(6, 0));
        Check.noElement("independent(0, 6)", () -> x.independent(0, 6));
        Check.due("status(0)", x.status(0), 7);
        Check.due("status(1)", x.status(1), 6);
        Check.due("status(2)", x.status(2), 0);
        // but TOO MANY are ahead of all
        Check.tell(x, Programs.TOO_MANY);
        Check.noState("value(6, 10, 3)", () -> x.value(6, 10, 3));
        Check.due("status(2)", x.status(2), 1);
    }

    private static void bothBounds() {
        Check.by("Promise 15", "ODDS that one is x, another one (or the same) is y.");
        OddsSolver x = Check.solverOf("draw a 10;draw f 5;");
        Check.due("both(0, 9, 5, 4, 2)", x.both(0, 9, 5, 4, 2), 50);
        Check.due("both(5, 0, 0, 0, 2)", x.both(5, 0, 0, 0, 2), 50);
        Check.due("both(0, 0, 5, 5, 0)", x.both(0, 0, 5, 5, 0), 0);
        Check.due("both(0, 9, 5, 9, 0)", x.both(0, 9, 5, 9, 0), 0);
        Check.noArgument("both(0, 10, 5, 0, 0)", () -> x.both(0, 10, 5, 0, 0));
        Check.noArgument("both(0, 0, 5, 10, 0)", () -> x.both(0, 0, 5, 10, 0));
        Check.noElement("both(6, 0, 5, 0, 0)", () -> x.both(6, 0, 5, 0, 0));
        Check.noElement("both(5, 0, 6, 0, 0)", () -> x.both(5, 0, 6, 0, 0));
        for (int number : FAR_OUT) {
            Check.noArgument("both, x", () -> x.both(0, number, 5, 0, 0));
            Check.noArgument("both, y", () -> x.both(0, 0, 5, number, 0));
            Check.noElement("both, v", () -> x.both(number, 10, 5, 0, 0));
            Check.noElement("both, w", () -> x.both(0, 10, number, 0, 3));
        }
        Check.due("status(0)", x.status(0), 2 + 2 * FAR_OUT.length);
        Check.due("status(1)", x.status(1), 2 + 2 * FAR_OUT.length);
    }

    private static void bothOfTheSame() {
        Check.by("Promise 15", "another one (or the same)");
        OddsSolver x = Check.solverOf("draw a 4;observe a#3;");
        for (int a = 0; a < 5; a++) {
            for (int b = 0; b < 5; b++) {
                Check.due("both(0, " + a + ", 0, " + b + ")", x.both(0, a, 0, b, 0), a == b && a < 3 ? odds(1, 3) : 0);
            }
            Check.due("as value()", x.value(0, a, 0), x.both(0, a, 0, a, 0));
        }
    }

    private static void meanBounds() {
        Check.by("Promise 16", "MEAN.");
        OddsSolver x = Check.solverOf("a=9;b=0;draw c 10;flip 1{d=9;}flip 59{f=9;}");
        Check.due("the greatest", x.mean(0, 0), 9);
        Check.due("the least", x.mean(1, 0), 0);
        Check.due("upper", x.mean(2, 1), 9);
        Check.due("lower", x.mean(2, 2), 2);
        Check.due("9 of 60", x.mean(3, 2), 20);
        Check.due("531 of 60", x.mean(5, 1), 177);
        Check.noElement("mean(6, 0)", () -> x.mean(6, 0));
        for (int number : FAR_OUT) {
            Check.noElement("mean(" + number + ", 0)", () -> x.mean(number, 0));
            Check.noElement("mean(" + number + ", 3)", () -> x.mean(number, 3));
        }
        Check.noArgument("mean(5, 3)", () -> x.mean(5, 3));
        Check.due("status(0)", x.status(0), 1 + 2 * FAR_OUT.length);
    }

    private static void independentBounds() {
        Check.by("Promise 17", "1 INDEPENDENT, 0 not.");
        OddsSolver x = Check.solverOf("draw a 2;draw f 3;b=a;");
        Check.due("independent(0, 5)", x.independent(0, 5), 1);
        Check.due("independent(5, 0)", x.independent(5, 0), 1);
        Check.due("independent(0, 1)", x.independent(0, 1), 0);
        Check.noElement("independent(0, 6)", () -> x.independent(0, 6));
        Check.noElement("independent(6, 0)", () -> x.independent(6, 0));
        for (int number : FAR_OUT) {
            Check.noElement("independent(" + number + ", 0)", () -> x.independent(number, 0));
            Check.noElement("independent(0, " + number + ")", () -> x.independent(0, number));
        }
        Check.due("status(0)", x.status(0), 2 + 2 * FAR_OUT.length);
        // values at the upper bound count as others do
        OddsSolver y = Check.solverOf("draw a 2;draw b 2;a=a+8;b=b+8;if a=9{if b=9{b=0;}}");
        Check.due("by values of 9", y.independent(0, 1), 0);
        // just what the observation leaves counts
        OddsSolver z = Check.solverOf("draw a 2;draw b 2;observe a<b;");
        Check.due("nothing is open any more", z.independent(0, 1), 1);
    }

    private static void independentOfSure() {
        Check.by("Promise 17", "if for all couples of values ODDS of both are the product of those of each");
        OddsSolver x = Check.solverOf("draw a 2;b=3;");
        Check.due("one that is sure with another", x.independent(1, 0), 1);
        Check.due("one that is sure with itself", x.independent(1, 1), 1);
        Check.due("one that is not with itself", x.independent(0, 0), 0);
        Check.due("two that are sure", x.independent(1, 5), 1);
    }

    private static void visitsBounds() {
        Check.by("Promise 18", "VISITS; -2: it is TRAPPED.");
        OddsSolver x = Check.solverOf(HALF_LOOP);
        Check.due("visits(0, 0)", x.visits(0, 0), 2);
        int last = x.told(1) - 1;
        Check.due("visits of the last", x.visits(last, 0), 1);
        Check.noElement("visits beyond", () -> x.visits(last + 1, 0));
        Check.noElement("visits beyond, another form", () -> x.visits(last + 1, 3));
        for (int number : FAR_OUT) {
            Check.noElement("visits(" + number + ", 0)", () -> x.visits(number, 0));
            Check.noElement("visits(" + number + ", 3)", () -> x.visits(number, 3));
        }
        Check.due("status(0)", x.status(0), 2 + 2 * FAR_OUT.length);
    }

    private static void startOnceMore() {
        Check.by("Promise 18", "how often it is come to, on the average (START once more than by ARCS)");
        OddsSolver x = Check.solverOf("while 0=0{flip 30{stop;}}");
        for (int n = 1; n <= 60; n++) {
            x.chance(1, n);
            Check.due("by " + n, x.visits(0, 0), odds(60, n));
        }
        Check.due("never come to by ARCS", Check.solverOf("a=1;").visits(0, 0), 1);
        Check.due("at the END", new OddsSolver().visits(0, 0), 1);
    }

    private static void visitsOfTrapped() {
        Check.by("Promise 18", "-2: it is TRAPPED");
        OddsSolver x = Check.solverOf("flip 30{while 0=0{}}else{stop;}");
        for (int form = 0; form < 3; form++) {
            Check.due("START", x.visits(0, form), 1);
            Check.due("the trapped one", x.visits(1, form), -2);
        }
        Check.due("the END", x.visits(3, 2), 2);
        x.chance(0, 60);
        Check.due("START", x.visits(0, 0), -2);
        Check.due("for ever", x.total(2, 0), 1);
        x.chance(0, 0);
        Check.due("START", x.visits(0, 0), 1);
        Check.due("steps", x.steps(0), 2);
    }

    private static void stepsOfTrapped() {
        Check.by("Promise 19", "STEPS; -2: some STATE is TRAPPED.");
        OddsSolver x = Check.solverOf("flip 1{while 0=0{}}");
        for (int form = 0; form < 3; form++) {
            Check.due("by 1 of 60", x.steps(form), -2);
        }
        Check.noArgument("steps(3)", () -> x.steps(3));
        Check.noArgument("steps(-1)", () -> x.steps(-1));
        x.chance(0, 0);
        Check.due("none is trapped", x.steps(0), 1);
        x.undo();
        Check.due("trapped again", x.steps(0), -2);
    }

    private static void stepsOfNone() {
        Check.by("Promise 19", "STEPS: VISITS of all STATES that have ARCS together.");
        Check.due("without statements", new OddsSolver().steps(0), 0);
        Check.due("one statement", Check.solverOf("stop;").steps(0), 1);
        Check.due("broken at once", Check.solverOf("observe 0=1;").steps(0), 1);
        Check.due("199", Check.solverOf(Programs.chain(200)).steps(0), 199);
        OddsSolver x = Check.solverOf(HALF_LOOP);
        Check.due("a loop", x.steps(0), 6);
        for (int form : FAR_OUT) {
            Check.noArgument("steps(" + form + ")", () -> x.steps(form));
        }
        Check.due("status(1)", x.status(1), FAR_OUT.length);
    }

    private static void withinBounds() {
        Check.by("Promise 20", "WITHIN n (0 to 200).");
        OddsSolver x = Check.solverOf(Programs.chain(200));
        Check.due("within(200, 0)", x.within(200, 0), 1);
        Check.due("within(199, 0)", x.within(199, 0), 1);
        Check.due("within(198, 0)", x.within(198, 0), 0);
        Check.due("within(0, 0)", x.within(0, 0), 0);
        Check.noArgument("within(201, 0)", () -> x.within(201, 0));
        for (int number : FAR_OUT) {
            Check.noArgument("within(" + number + ", 0)", () -> x.within(number, 0));
        }
        Check.due("status(1)", x.status(1), 1 + FAR_OUT.length);
        Check.due("at the END at once", new OddsSolver().within(0, 0), 1);
        OddsSolver y = Check.solverOf("stop;");
        Check.due("within(0, 0)", y.within(0, 0), 0);
        Check.due("within(1, 0)", y.within(1, 0), 1);
    }

    private static void withinOfLoops() {
        Check.by("Promise 20", "WITHIN n: what is at the END behind at most n ARCS.");
        OddsSolver x = Check.solverOf(HALF_LOOP);
        // it ends behind 4, 6, 8 .. ARCS
        BigInteger half = BigInteger.TWO.modInverse(P);
        int[] ns = {200, 199, 198, 5, 4, 3, 0, 200};
        int[] times = {99, 98, 98, 1, 1, 0, 0, 99};
        for (int k = 0; k < ns.length; k++) {
            int due = BigInteger.ONE.subtract(half.pow(times[k])).mod(P).intValue();
            Check.due("within(" + ns[k] + ", 0)", x.within(ns[k], 0), due);
        }
        Check.due("within(30, 2)", x.within(30, 2), 16384);
        Check.due("within(31, 1)", x.within(31, 1), 16383);
        Check.due("within(32, 2)", x.within(32, 2), NONE);
        Check.due("within(32, 1)", x.within(32, 1), NONE);
        x.chance(1, 0);
        Check.due("never", x.within(200, 0), 0);
        x.undo();
        Check.due("within(4, 2), taken back", x.within(4, 2), 2);
        // what is BROKEN is not at the END
        Check.due("broken", Check.solverOf("flip 20{observe 0=1;}").within(200, 1), 2);
    }

    private static void noSolution() {
        Check.by("Promise 13", "Where equations have not just one solution modulo P .. the answer is -3 (whatever FORM).");
        OddsSolver x = Check.solverOf(Programs.SINGULAR);
        for (int form = 0; form < 3; form++) {
            for (int what = 0; what < 3; what++) {
                Check.due("total", x.total(what, form), -3);
            }
            Check.due("value", x.value(0, 0, form), -3);
            Check.due("value never had", x.value(0, 9, form), -3);
            Check.due("both", x.both(0, 0, 0, 1, form), -3);
            Check.due("mean", x.mean(5, form), -3);
            Check.due("visits of START", x.visits(0, form), -3);
            Check.due("visits of the last", x.visits(x.told(1) - 1, form), -3);
            Check.due("steps", x.steps(form), -3);
        }
        Check.due("independent", x.independent(0, 1), -3);
        Check.due("nothing was refused", x.status(0) + x.status(1) + x.status(2), 0);
        // these need no equations
        Check.due("within", x.within(2, 0), 0);
        Check.due("classes", x.classes(0) > 1 ? 1 : 0, 1);
        Check.due("worth", x.worth() > 0 ? 1 : 0, 1);
        x.chance(1, 58);
        Check.due("no longer", x.total(0, 0), 1);
        Check.due("no longer", x.value(0, 0, 0), 1);
        x.undo();
        Check.due("once more", x.total(0, 0), -3);
        // with a trapped one ahead: -2 is still told of it, and refusals come first
        OddsSolver y = Check.solverOf("flip 30{while 0=0{}}" + Programs.SINGULAR);
        Check.due("visits of a trapped one", y.visits(1, 0), -2);
        Check.due("visits of START", y.visits(0, 0), -3);
        Check.due("steps", y.steps(0), -2);
        Check.due("total", y.total(2, 0), -3);
        Check.noElement("value(6, 0, 0)", () -> y.value(6, 0, 0));
        Check.noArgument("value(0, 10, 0)", () -> y.value(0, 10, 0));
        Check.noElement("visits(200, 0)", () -> y.visits(200, 0));
        // without a STATE at the END
        OddsSolver z = Check.solverOf(Programs.SINGULAR.replace("stop;", Programs.BREAK));
        Check.due("ends", z.told(2), 0);
        Check.due("total", z.total(0, 0), -3);
        Check.due("total", z.total(1, 0), -3);
        Check.noState("value", () -> z.value(0, 0, 0));
        Check.noState("independent", () -> z.independent(0, 1));
    }

    private static void endedIsZero() {
        Check.by("Promise 14", "or ENDED is 0 modulo P though some STATE is at the END, the answer is -3 (whatever FORM)");
        OddsSolver x = Check.solverOf(Programs.NO_ENDED);
        Check.due("some are at the END", x.told(2), 2);
        for (int form = 0; form < 3; form++) {
            Check.due("value", x.value(0, 1, form), -3);
            Check.due("both", x.both(0, 1, 1, 0, form), -3);
            Check.due("mean", x.mean(0, form), -3);
            Check.due("mean of one that is always 0", x.mean(1, form), -3);
        }
        Check.due("independent", x.independent(0, 1), -3);
        Check.noArgument("value(0, 0, 3)", () -> x.value(0, 0, 3));
        Check.noElement("independent(0, 6)", () -> x.independent(0, 6));
        x.chance(0, 12);
        Check.due("no longer", x.value(1, 0, 0), 1);
        x.undo();
        Check.due("once more", x.value(1, 0, 0), -3);
    }

    private static void pivots() {
        Check.by("Promise 18", "the numbers x that solve, for all STATES that are not TRAPPED");
        OddsSolver x = Check.solverOf(Programs.SWAPPED);
        Check.due("ended", x.total(0, 0), 1);
        Check.due("for ever", x.total(2, 0), 0);
        Check.due("value", x.value(0, 0, 0), 1);
        // x of START by its own equation: 1, and x of those with ARCS there, times their ODDS
        BigInteger sum = BigInteger.ONE;
        for (int i = 0; i < x.told(1); i++) {
            for (int k = 0; k < x.state(i, 9); k++) {
                if (x.arc(i, k, 0) == 0) {
                    BigInteger by = BigInteger.valueOf(odds(x.arc(i, k, 1), 60));
                    sum = sum.add(by.multiply(BigInteger.valueOf(x.visits(i, 0))));
                }
            }
        }
        Check.due("x of START", x.visits(0, 0), sum.mod(P).intValue());
    }
}
