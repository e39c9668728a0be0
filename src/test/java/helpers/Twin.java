import java.util.ArrayList;
import java.util.List;

/**
 * The whole face once more, by the model: what each call is to answer, or the name of what it throws. It holds what
 * stays between calls as the document names it: TAPE, FAULT, PROGRAM, FIRST values, what can be taken back, refusals.
 */
final class Twin {
    static final String[] CALLS = {"feed", "text", "fault", "first", "chance", "undo", "told", "statement", "firstOf",
        "state", "arc", "total", "value", "both", "mean", "independent", "visits", "steps", "within", "classes", "classOf",
        "run", "worth", "print", "status"};

    private String tape = "";
    private int faultPlace = -1;
    private Model model = new Model(new ArrayList<>());
    /** Where (a VARIABLE, or 6 and a STATEMENT), and what it was. */
    private List<int[]> changes = new ArrayList<>();
    private final int[] refused = new int[3];
    private boolean explored;
    private boolean tooMany;
    private final int[][] labels = new int[6][];
    private boolean runsTried;
    private boolean runsKnown;

    /** Its answer is not known: too many RUNS to try them all. */
    static final String OPEN = "open";

    /** A refused call leaves by it. */
    private static final class Refused extends RuntimeException {
        private static final long serialVersionUID = 1;
        private final int by;

        Refused(int by) {
            this.by = by;
        }
    }

    String answer(String call, int[] a) {
        try {
            return answerOf(call, a);
        } catch (Refused e) {
            refused[e.by]++;
            return new String[] {"NoSuchElementException", "IllegalArgumentException", "IllegalStateException"}[e.by];
        }
    }

    private String answerOf(String call, int[] a) {
        switch (call) {
            case "feed": return "" + feed(a);
            case "text": return "" + text(a[0]);
            case "fault": return "" + faultPlace;
            case "first": return "" + first(a[0], a[1]);
            case "chance": return "" + chance(a[0], a[1]);
            case "undo": return "" + undo();
            case "told": return "" + told(a[0]);
            case "statement": return "" + statement(a[0], a[1]);
            case "firstOf": return "" + model.firsts.get(element(a[0], 6));
            case "print": return "" + (explore() ? model.print() : 0);
            case "status": return "" + (a[0] >= 0 && a[0] < 3 ? refused[a[0]] : -1);
            default:
        }
        if (!explore()) {
            throw new Refused(2);
        }
        switch (call) {
            case "state": return "" + state(a[0], a[1]);
            case "arc": return "" + arc(a[0], a[1], a[2]);
            case "total": return "" + total(a[0], a[1]);
            case "value": return "" + value(a[0], a[1], a[2]);
            case "both": return "" + both(a);
            case "mean": return "" + mean(a[0], a[1]);
            case "independent": return "" + independent(a[0], a[1]);
            case "visits": return "" + visits(a[0], a[1]);
            case "steps": return "" + steps(a[0]);
            case "within": return "" + within(a[0], a[1]);
            case "classes": return "" + classes(a[0]);
            case "classOf": return "" + classOf(a[0], a[1]);
            default: return runs(call, a);
        }
    }

    private static int element(int number, int count) {
        if (number < 0 || number >= count) {
            throw new Refused(0);
        }
        return number;
    }

    private static int argument(int number, int most) {
        if (number < 0 || number > most) {
            throw new Refused(1);
        }
        return number;
    }

    private boolean explore() {
        if (!explored) {
            explored = true;
            tooMany = !model.explore();
            java.util.Arrays.fill(labels, null);
            runsTried = false;
        }
        return !tooMany;
    }

    private int feed(int[] a) {
        if (tape.length() + 20 > 400) {
            return -1;
        }
        StringBuilder longer = new StringBuilder(tape);
        for (int number : a) {
            for (int k = 3; k >= 0; k--) {
                longer.append((char) ((number >>> (8 * k)) & 255));
            }
        }
        tape = longer.toString();
        return tape.length();
    }

    private int text(int n) {
        String told = tape.substring(0, argument(n, tape.length()));
        tape = "";
        TextOracle oracle = new TextOracle(told);
        faultPlace = oracle.place;
        if (oracle.fault != 0) {
            return oracle.fault - 10;
        }
        model = new Model(ModelReader.read(told));
        changes = new ArrayList<>();
        explored = false;
        return model.all.size();
    }

    private int first(int v, int x) {
        int was = model.firsts.get(element(v, 6));
        model.firsts.set(v, argument(x, 9));
        keep(v, was);
        return was;
    }

    private int chance(int statement, int n) {
        Model.Node node = model.all.get(element(statement, model.all.size()));
        argument(n, node.kind == 2 ? 60 : -1);
        int was = node.amount;
        node.amount = n;
        keep(6 + statement, was);
        return was;
    }

    private void keep(int where, int was) {
        changes.add(new int[] {where, was});
        if (changes.size() > 12) {
            changes.remove(0);
        }
        explored = false;
    }

    private int undo() {
        if (changes.isEmpty()) {
            return -1;
        }
        int[] change = changes.remove(changes.size() - 1);
        if (change[0] < 6) {
            model.firsts.set(change[0], change[1]);
        } else {
            model.all.get(change[0] - 6).amount = change[1];
        }
        explored = false;
        return changes.size();
    }

    private int told(int what) {
        switch (argument(what, 7)) {
            case 0: return model.all.size();
            case 6: return tape.length();
            case 7: return changes.size();
            default:
        }
        if (!explore()) {
            return -1;
        }
        int arcs = 0;
        int level = 0;
        for (int i = 0; i < model.states.size(); i++) {
            arcs += model.arcs.get(i).size();
            level = Math.max(level, model.levels[i]);
        }
        return new int[] {0, model.states.size(), model.count(true), model.count(false), arcs, level}[what];
    }

    private int statement(int k, int what) {
        Model.Node node = model.all.get(element(k, model.all.size()));
        switch (argument(what, 4)) {
            case 0: return node.kind;
            case 1: return node.variable;
            case 2: return node.amount;
            case 3: return model.near(node);
            default: return model.far(node);
        }
    }

    private int state(int i, int what) {
        List<Integer> state = model.states.get(element(i, model.states.size()));
        switch (argument(what, 9)) {
            case 7: return model.levels[i];
            case 8: return model.trapped[i] ? 1 : 0;
            case 9: return model.arcs.get(i).size();
            default: return state.get(what);
        }
    }

    private int arc(int i, int k, int what) {
        List<Model.Arc> arcs = model.arcs.get(element(i, model.states.size()));
        Model.Arc arc = arcs.get(element(k, arcs.size()));
        return argument(what, 1) == 0 ? arc.to() : arc.sixtieths();
    }

    private int total(int what, int form) {
        argument(what, 2);
        argument(form, 2);
        if (!model.solved) {
            return -3;
        }
        long ever = Math.floorMod(1 - model.ended() - model.broken(), Model.P);
        return Model.inForm(what == 0 ? model.ended() : what == 1 ? model.broken() : ever, form);
    }

    /** Whether what is divided by ENDED can be. */
    private boolean divides() {
        if (model.count(true) == 0) {
            throw new Refused(2);
        }
        return model.solved && model.ended() != 0;
    }

    private int value(int v, int x, int form) {
        element(v, 6);
        argument(x, 9);
        argument(form, 2);
        return divides() ? Model.inForm(model.given(model.together(v, x, 0, -1)), form) : -3;
    }

    private int both(int[] a) {
        element(a[0], 6);
        element(a[2], 6);
        argument(a[1], 9);
        argument(a[3], 9);
        argument(a[4], 2);
        return divides() ? Model.inForm(model.given(model.together(a[0], a[1], a[2], a[3])), a[4]) : -3;
    }

    private int mean(int v, int form) {
        element(v, 6);
        argument(form, 2);
        return divides() ? Model.inForm(model.meanOf(v), form) : -3;
    }

    private int independent(int v, int w) {
        element(v, 6);
        element(w, 6);
        return divides() ? model.independent(v, w) : -3;
    }

    private int visits(int i, int form) {
        element(i, model.states.size());
        argument(form, 2);
        if (model.trapped[i]) {
            return -2;
        }
        return model.solved ? Model.inForm(model.visits[i], form) : -3;
    }

    private int steps(int form) {
        argument(form, 2);
        if (model.count(false) > 0) {
            return -2;
        }
        return model.solved ? Model.inForm(model.steps(), form) : -3;
    }

    private int within(int n, int form) {
        argument(n, 200);
        argument(form, 2);
        return Model.inForm(model.within(n), form);
    }

    private int[] labelsBy(int v) {
        element(v, 6);
        if (labels[v] == null) {
            labels[v] = model.classesBy(v);
        }
        return labels[v];
    }

    private int classes(int v) {
        int most = 0;
        for (int label : labelsBy(v)) {
            most = Math.max(most, label);
        }
        return most + 1;
    }

    private int classOf(int v, int i) {
        element(v, 6);
        element(i, model.states.size());
        return labelsBy(v)[i];
    }

    private String runs(String call, int[] a) {
        if (!runsTried) {
            runsTried = true;
            runsKnown = model.tryRuns();
        }
        if (!runsKnown) {
            return OPEN;
        }
        if (call.equals("worth")) {
            return "" + model.bestWorth;
        }
        if (model.bestDraws == null) {
            return "-1";
        }
        int count = model.bestDraws.size();
        return "" + (a[0] == -1 ? count : a[0] >= 0 && a[0] < count ? model.bestDraws.get(a[0]) : -1);
    }
}
