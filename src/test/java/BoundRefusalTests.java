import java.util.ArrayList;
import java.util.List;
import java.util.function.Supplier;
import java.util.function.ToLongFunction;

/** What refused calls and asking calls leave behind, and how many calls there can be (promise 26, part ==== 3). */
public final class BoundRefusalTests {
    private static final int NONE = OddsSolver.NONE;
    private static final String[] NAMES = {
        "NoSuchElementException", "IllegalArgumentException", "IllegalStateException"};

    /** A call, and which of the three it is refused by; NONE if it is not. */
    private record Call(String name, int refusedBy, ToLongFunction<OddsSolver> made) {
    }

    public static void main(String[] args) {
        refusedOnes();
        refusedOfTooMany();
        refusedWithoutEnd();
        askedOnes();
        askedOfTooMany();
        tapeBehindFault();
        statusBounds();
        statusOfEach();
        statusStays();
        calls512();
        refusals511();
        Check.close();
    }

    /** Something of everything: a program, changes, a TAPE, and a FAULT that was. */
    private static OddsSolver ordinary() {
        OddsSolver x = Check.solverOf("flip 20{draw a 2;}observe a+b<2;");
        x.first(1, 1);
        x.chance(0, 7);
        Check.tell(x, "draw a 7;");
        Check.feed(x, "draw c 3;stop;      ");
        return x;
    }

    private static OddsSolver tooMany() {
        OddsSolver x = Check.solverOf("flip 20{" + Programs.TOO_MANY + "}");
        x.first(1, 1);
        x.chance(0, 7);
        Check.feed(x, "draw c 3;stop;      ");
        return x;
    }

    private static OddsSolver withoutEnd() {
        OddsSolver x = Check.solverOf("flip 20{while 0=0{}}observe 0=1;");
        x.first(1, 1);
        x.chance(0, 7);
        Check.feed(x, "draw c 3;stop;      ");
        return x;
    }

    /** Of two objects made alike one is called besides: both answer alike, but for status(). */
    private static void leavesAll(Supplier<OddsSolver> maker, List<Call> calls) {
        String due = Answers.ofAll(maker.get());
        for (Call call : calls) {
            OddsSolver x = maker.get();
            int[] before = {x.status(0), x.status(1), x.status(2)};
            String answer = Check.answerOf(() -> call.made.applyAsLong(x));
            if (call.refusedBy != NONE) {
                Check.same(call.name, answer, NAMES[call.refusedBy]);
            } else {
                Check.due(call.name + " throws nothing", answer.endsWith("Exception") ? 1 : 0, 0);
            }
            for (int what = 0; what < 3; what++) {
                Check.due(call.name + ", status(" + what + ")", x.status(what), before[what] + (what == call.refusedBy ? 1 : 0));
            }
            Check.same(call.name + " once more", Check.answerOf(() -> call.made.applyAsLong(x)), answer);
            Check.same("all answers behind " + call.name, Answers.ofAll(x), due);
        }
    }

    private static void refusedOnes() {
        Check.by("Promise 26, ==== 3", "A call that throws changes nothing but status()");
        List<Call> calls = new ArrayList<>();
        calls.add(new Call("text(-1)", 1, x -> x.text(-1)));
        calls.add(new Call("text(21)", 1, x -> x.text(21)));
        calls.add(new Call("first(6, 1)", 0, x -> x.first(6, 1)));
        calls.add(new Call("first(-1, 10)", 0, x -> x.first(-1, 10)));
        calls.add(new Call("first(0, 10)", 1, x -> x.first(0, 10)));
        calls.add(new Call("first(0, -1)", 1, x -> x.first(0, -1)));
        calls.add(new Call("chance(3, 1)", 0, x -> x.chance(3, 1)));
        calls.add(new Call("chance(-1, 61)", 0, x -> x.chance(-1, 61)));
        calls.add(new Call("chance(0, 61)", 1, x -> x.chance(0, 61)));
        calls.add(new Call("chance(0, -1)", 1, x -> x.chance(0, -1)));
        calls.add(new Call("chance(1, 1)", 1, x -> x.chance(1, 1)));
        calls.add(new Call("told(8)", 1, x -> x.told(8)));
        calls.add(new Call("told(-1)", 1, x -> x.told(-1)));
        calls.add(new Call("statement(3, 0)", 0, x -> x.statement(3, 0)));
        calls.add(new Call("statement(0, 5)", 1, x -> x.statement(0, 5)));
        calls.add(new Call("firstOf(6)", 0, x -> x.firstOf(6)));
        calls.add(new Call("state(99, 0)", 0, x -> x.state(99, 0)));
        calls.add(new Call("state(0, 10)", 1, x -> x.state(0, 10)));
        calls.add(new Call("arc(99, 0, 0)", 0, x -> x.arc(99, 0, 0)));
        calls.add(new Call("arc(0, 2, 0)", 0, x -> x.arc(0, 2, 0)));
        calls.add(new Call("arc(0, 0, 2)", 1, x -> x.arc(0, 0, 2)));
        calls.add(new Call("total(3, 0)", 1, x -> x.total(3, 0)));
        calls.add(new Call("total(0, 3)", 1, x -> x.total(0, 3)));
        calls.add(new Call("value(6, 0, 0)", 0, x -> x.value(6, 0, 0)));
        calls.add(new Call("value(0, 10, 0)", 1, x -> x.value(0, 10, 0)));
        calls.add(new Call("value(0, 0, 3)", 1, x -> x.value(0, 0, 3)));
        calls.add(new Call("both(0, 0, 6, 0, 0)", 0, x -> x.both(0, 0, 6, 0, 0)));
        calls.add(new Call("both(0, 0, 1, 10, 0)", 1, x -> x.both(0, 0, 1, 10, 0)));
        calls.add(new Call("mean(6, 0)", 0, x -> x.mean(6, 0)));
        calls.add(new Call("mean(0, 3)", 1, x -> x.mean(0, 3)));
        calls.add(new Call("independent(0, 6)", 0, x -> x.independent(0, 6)));
        calls.add(new Call("visits(99, 0)", 0, x -> x.visits(99, 0)));
        calls.add(new Call("visits(0, 3)", 1, x -> x.visits(0, 3)));
        calls.add(new Call("steps(3)", 1, x -> x.steps(3)));
        calls.add(new Call("within(201, 0)", 1, x -> x.within(201, 0)));
        calls.add(new Call("within(-1, 0)", 1, x -> x.within(-1, 0)));
        calls.add(new Call("classes(6)", 0, x -> x.classes(6)));
        calls.add(new Call("classOf(6, 0)", 0, x -> x.classOf(6, 0)));
        calls.add(new Call("classOf(0, 99)", 0, x -> x.classOf(0, 99)));
        leavesAll(BoundRefusalTests::ordinary, calls);
    }

    private static void refusedOfTooMany() {
        Check.by("Promise 26, ==== 3", "1 IllegalArgumentException, 2 IllegalStateException");
        List<Call> calls = new ArrayList<>();
        calls.add(new Call("state(0, 0)", 2, x -> x.state(0, 0)));
        calls.add(new Call("arc(0, 0, 0)", 2, x -> x.arc(0, 0, 0)));
        calls.add(new Call("total(0, 0)", 2, x -> x.total(0, 0)));
        calls.add(new Call("value(0, 0, 0)", 2, x -> x.value(0, 0, 0)));
        calls.add(new Call("both(0, 0, 1, 0, 0)", 2, x -> x.both(0, 0, 1, 0, 0)));
        calls.add(new Call("mean(0, 0)", 2, x -> x.mean(0, 0)));
        calls.add(new Call("independent(0, 1)", 2, x -> x.independent(0, 1)));
        calls.add(new Call("visits(0, 0)", 2, x -> x.visits(0, 0)));
        calls.add(new Call("steps(0)", 2, x -> x.steps(0)));
        calls.add(new Call("within(0, 0)", 2, x -> x.within(0, 0)));
        calls.add(new Call("classes(0)", 2, x -> x.classes(0)));
        calls.add(new Call("classOf(0, 0)", 2, x -> x.classOf(0, 0)));
        calls.add(new Call("run(-1)", 2, x -> x.run(NONE)));
        calls.add(new Call("run(0)", 2, x -> x.run(0)));
        calls.add(new Call("worth()", 2, x -> x.worth()));
        // wrong besides: TOO MANY is what it is counted by
        calls.add(new Call("state(-1, -1)", 2, x -> x.state(-1, -1)));
        calls.add(new Call("arc(-1, -1, -1)", 2, x -> x.arc(-1, -1, -1)));
        calls.add(new Call("total(-1, -1)", 2, x -> x.total(-1, -1)));
        calls.add(new Call("value(-1, -1, -1)", 2, x -> x.value(-1, -1, -1)));
        calls.add(new Call("classOf(-1, -1)", 2, x -> x.classOf(-1, -1)));
        // these ask for no STATE
        calls.add(new Call("text(21)", 1, x -> x.text(21)));
        calls.add(new Call("first(6, 0)", 0, x -> x.first(6, 0)));
        calls.add(new Call("chance(0, 61)", 1, x -> x.chance(0, 61)));
        calls.add(new Call("told(8)", 1, x -> x.told(8)));
        calls.add(new Call("statement(4, 0)", 0, x -> x.statement(4, 0)));
        calls.add(new Call("firstOf(-1)", 0, x -> x.firstOf(-1)));
        leavesAll(BoundRefusalTests::tooMany, calls);
    }

    private static void refusedWithoutEnd() {
        Check.by("Promise 26, ==== 3", "A call that throws changes nothing but status()");
        List<Call> calls = new ArrayList<>();
        calls.add(new Call("value(0, 0, 0)", 2, x -> x.value(0, 0, 0)));
        calls.add(new Call("both(0, 0, 1, 0, 0)", 2, x -> x.both(0, 0, 1, 0, 0)));
        calls.add(new Call("mean(0, 0)", 2, x -> x.mean(0, 0)));
        calls.add(new Call("independent(0, 1)", 2, x -> x.independent(0, 1)));
        calls.add(new Call("value(6, 10, 3)", 0, x -> x.value(6, 10, 3)));
        calls.add(new Call("value(0, 10, 3)", 1, x -> x.value(0, 10, 3)));
        calls.add(new Call("mean(0, 3)", 1, x -> x.mean(0, 3)));
        calls.add(new Call("independent(6, 6)", 0, x -> x.independent(6, 6)));
        leavesAll(BoundRefusalTests::withoutEnd, calls);
    }

    private static List<Call> asking() {
        List<Call> calls = new ArrayList<>();
        calls.add(new Call("fault()", NONE, x -> x.fault()));
        for (int what = 0; what < 8; what++) {
            int asked = what;
            calls.add(new Call("told(" + what + ")", NONE, x -> x.told(asked)));
        }
        calls.add(new Call("statement(0, 3)", NONE, x -> x.statement(0, 3)));
        calls.add(new Call("firstOf(1)", NONE, x -> x.firstOf(1)));
        calls.add(new Call("print()", NONE, x -> x.print()));
        for (int what = -1; what < 4; what++) {
            int asked = what;
            calls.add(new Call("status(" + what + ")", NONE, x -> x.status(asked)));
        }
        return calls;
    }

    private static void askedOnes() {
        Check.by("Promise 26, ==== 3", "Asked, nothing stays changed.");
        List<Call> calls = asking();
        calls.add(new Call("state(0, 7)", NONE, x -> x.state(0, 7)));
        calls.add(new Call("arc(0, 1, 1)", NONE, x -> x.arc(0, 1, 1)));
        calls.add(new Call("total(2, 1)", NONE, x -> x.total(2, 1)));
        calls.add(new Call("value(0, 0, 2)", NONE, x -> x.value(0, 0, 2)));
        calls.add(new Call("both(0, 0, 1, 1, 0)", NONE, x -> x.both(0, 0, 1, 1, 0)));
        calls.add(new Call("mean(1, 0)", NONE, x -> x.mean(1, 0)));
        calls.add(new Call("independent(0, 1)", NONE, x -> x.independent(0, 1)));
        calls.add(new Call("visits(1, 1)", NONE, x -> x.visits(1, 1)));
        calls.add(new Call("steps(0)", NONE, x -> x.steps(0)));
        calls.add(new Call("within(200, 0)", NONE, x -> x.within(200, 0)));
        calls.add(new Call("classes(0)", NONE, x -> x.classes(0)));
        calls.add(new Call("classOf(1, 1)", NONE, x -> x.classOf(1, 1)));
        calls.add(new Call("run(0)", NONE, x -> x.run(0)));
        calls.add(new Call("run(99)", NONE, x -> x.run(99)));
        calls.add(new Call("worth()", NONE, x -> x.worth()));
        leavesAll(BoundRefusalTests::ordinary, calls);
    }

    private static void askedOfTooMany() {
        Check.by("Promise 26, ==== 3", "Asked, nothing stays changed.");
        leavesAll(BoundRefusalTests::tooMany, asking());
    }

    private static void tapeBehindFault() {
        Check.by("Promise 3, ==== 3", "(text(): also the TAPE is empty behind a FAULT)");
        OddsSolver x = ordinary();
        Check.due("the tape", x.told(6), 20);
        Check.due("text(8)", x.text(8), 1 - 10);
        Check.due("the tape behind a FAULT", x.told(6), 0);
        Check.due("fault", x.fault(), 8);
        Check.due("feed", x.feed(0x73746f70, 0x3b202020, 0x20202020, 0x20202020, 0x20202020), 20);
        Check.noArgument("text(21)", () -> x.text(21));
        Check.due("the tape behind one that throws", x.told(6), 20);
        Check.due("text(20)", x.text(20), 1);
        Check.due("the tape behind a good one", x.told(6), 0);
        Check.due("a FAULT is no refusal", x.status(1), 1);
    }

    private static void statusBounds() {
        Check.by("Promise 26", "NONE for others");
        OddsSolver x = new OddsSolver();
        int[] others = {-1, 3, 4, -2, Integer.MIN_VALUE, Integer.MAX_VALUE};
        for (int what = 0; what < 3; what++) {
            Check.due("status(" + what + ")", x.status(what), 0);
        }
        for (int what : others) {
            Check.due("status(" + what + ")", x.status(what), NONE);
        }
        Check.due("asking for others is no refusal", x.status(0) + x.status(1) + x.status(2), 0);
    }

    private static void statusOfEach() {
        Check.by("Promise 26", "How many calls were refused: 0 NoSuchElementException, 1 IllegalArgumentException, 2 IllegalStateException");
        OddsSolver x = Check.solverOf("observe 0=1;");
        for (int k = 1; k <= 5; k++) {
            Check.noElement("firstOf(6)", () -> x.firstOf(6));
            Check.due("status(0)", x.status(0), 3 * k - 2);
            Check.noElement("value(6, 10, 3)", () -> x.value(6, 10, 3));
            Check.noElement("classOf(9, 9)", () -> x.classOf(9, 9));
            Check.noArgument("told(8)", () -> x.told(8));
            Check.due("status(1)", x.status(1), 2 * k - 1);
            Check.noArgument("total(3, 3)", () -> x.total(3, 3));
            Check.noState("mean(0, 0)", () -> x.mean(0, 0));
            Check.due("status(0)", x.status(0), 3 * k);
            Check.due("status(1)", x.status(1), 2 * k);
            Check.due("status(2)", x.status(2), k);
        }
    }

    private static void statusStays() {
        Check.by("Promise 26", "How many calls were refused");
        OddsSolver x = Check.solverOf("observe 0=1;");
        Check.noElement("first(6, 0)", () -> x.first(6, 0));
        Check.noArgument("first(0, 10)", () -> x.first(0, 10));
        Check.noState("mean(0, 0)", () -> x.mean(0, 0));
        // what is answered by NONE, a FAULT, -2, -3 is not refused
        x.undo();
        x.run(99);
        x.worth();
        Check.tell(x, "?");
        for (int k = 0; k < 21; k++) {
            x.feed(0, 0, 0, 0, 0);
        }
        x.text(400);
        Check.tell(x, "while 0=0{}");
        Check.due("steps", x.steps(0), -2);
        Check.tell(x, Programs.SINGULAR);
        Check.due("steps", x.steps(0), -3);
        x.first(0, 1);
        x.undo();
        for (int what = 0; what < 3; what++) {
            Check.due("status(" + what + ")", x.status(what), 1);
        }
        Check.due("another object", new OddsSolver().status(0), 0);
    }

    private static void calls512() {
        Check.by("All promises", "An object is used for at most 512 calls after it has been made");
        OddsSolver x = new OddsSolver();
        x.feed(0x666c6970, 0x2033307b, 0x613d313b, 0x7d647261, 0x77206220);
        x.feed(0x323b6f62, 0x73657276, 0x65206123, 0x623b2020, 0x20202020);
        Check.due("text", x.text(38), 4);
        int made = 3;
        for (int round = 0; made + 10 <= 508; round++) {
            int n = 1 + round % 59;
            x.chance(0, n);
            Check.due("ended", x.total(0, 0), x.value(0, 0, 0) >= 0 ? x.within(4, 0) : 0);
            Check.due("value", x.value(0, 1, 1) * (60 / gcd(n, 60)), n / gcd(n, 60) * x.value(0, 1, 2));
            Check.due("classes", x.classes(0) > 2 ? 1 : 0, 1);
            Check.due("worth", x.worth() > 0 ? 1 : 0, 1);
            made += 8;
            if (round % 20 == 19) {
                x.undo();
                x.undo();
                made += 2;
            }
        }
        for (; made < 508; made++) {
            x.fault();
        }
        Check.due("the 509th", x.chance(0, 15) > 0 ? 1 : 0, 1);
        Check.due("the 510th", x.value(0, 1, 2), 4);
        Check.due("the 511th", x.undo(), 11);
        Check.due("the 512th", x.told(7), 11);
    }

    private static int gcd(int a, int b) {
        return b == 0 ? a : gcd(b, a % b);
    }

    private static void refusals511() {
        Check.by("Promise 26", "How many calls were refused");
        OddsSolver x = new OddsSolver();
        for (int k = 0; k < 170; k++) {
            Check.noElement("firstOf(6)", () -> x.firstOf(6));
            Check.noArgument("told(8)", () -> x.told(8));
            Check.noElement("state(1, 0)", () -> x.state(1, 0));
        }
        Check.due("the 511th", x.status(0), 340);
        Check.due("the 512th", x.status(1), 170);
        OddsSolver y = new OddsSolver();
        for (int k = 0; k < 511; k++) {
            Check.noArgument("text(1)", () -> y.text(1));
        }
        Check.due("the 512th", y.status(1), 511);
    }
}
