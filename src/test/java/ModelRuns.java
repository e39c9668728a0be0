import java.util.ArrayDeque;
import java.util.ArrayList;
import java.util.Deque;
import java.util.List;
import java.util.Random;

/** Random programs, changed and taken back, every answer compared with the model's. */
public final class ModelRuns {
    private static int solvedOnes = 0;
    private static int runs = 0;
    private static int manyOnes = 0;
    private static int largest = 0;

    public static void main(String[] args) {
        int programs = args.length > 0 ? Integer.parseInt(args[0]) : 1500;
        long seed = args.length > 1 ? Long.parseLong(args[1]) : 1;
        OddsSolver x = new OddsSolver();
        for (int k = 0; k < programs; k++) {
            x = k % 4 == 0 ? new OddsSolver() : x;
            compareProgram(x, new Random(seed * 1000003 + k));
        }
        System.out.println(solvedOnes + " state spaces, the largest of " + largest + "; " + manyOnes + " of too many; "
                + runs + " tried by their runs");
        Check.due("enough state spaces", solvedOnes > programs ? 1 : 0, 1);
        Check.due("enough runs", runs > programs / 2 ? 1 : 0, 1);
        Check.due("some of too many", manyOnes > 0 ? 1 : 0, 1);
        Check.close();
    }

    private static void compareProgram(OddsSolver x, Random random) {
        Model model = null;
        while (model == null || model.all.size() > 40 || Model.textOf(model.top).length() > 400) {
            model = new Model(Model.randomNodes(random, 8, 4, 1 + random.nextInt(6)));
        }
        String text = Model.textOf(model.top);
        Check.due("text of " + text, Check.tell(x, text), model.all.size());
        compareStatements(x, model, text);
        compareAll(x, model, text);
        Deque<int[]> changes = new ArrayDeque<>();
        for (int round = 0; round < 3; round++) {
            int times = 1 + random.nextInt(3);
            for (int k = 0; k < times; k++) {
                change(x, model, random, changes, text);
            }
            compareAll(x, model, text);
        }
    }

    private static void change(OddsSolver x, Model model, Random random, Deque<int[]> changes, String text) {
        int what = random.nextInt(3);
        List<Model.Node> flips = new ArrayList<>();
        for (Model.Node node : model.all) {
            if (node.kind == 2) {
                flips.add(node);
            }
        }
        if (what == 0) {
            int v = random.nextInt(6);
            int to = random.nextInt(10);
            changes.push(new int[] {v, model.firsts.get(v)});
            Check.due("first in " + text, x.first(v, to), model.firsts.get(v));
            model.firsts.set(v, to);
        } else if (what == 1 && !flips.isEmpty()) {
            Model.Node flip = flips.get(random.nextInt(flips.size()));
            int to = random.nextInt(61);
            changes.push(new int[] {6 + flip.number, flip.amount});
            Check.due("chance in " + text, x.chance(flip.number, to), flip.amount);
            flip.amount = to;
        } else {
            int[] back = changes.poll();
            Check.due("undo in " + text, x.undo(), back == null ? -1 : changes.size());
            if (back != null && back[0] < 6) {
                model.firsts.set(back[0], back[1]);
            } else if (back != null) {
                model.all.get(back[0] - 6).amount = back[1];
            }
        }
        Check.due("told 7 of " + text, x.told(7), changes.size());
    }

    private static void compareStatements(OddsSolver x, Model model, String text) {
        for (Model.Node node : model.all) {
            int[] dues = {node.kind, node.variable, node.amount, model.near(node), model.far(node)};
            for (int what = 0; what < 5; what++) {
                Check.due("statement " + node.number + " " + what + " of " + text,
                        x.statement(node.number, what), dues[what]);
            }
        }
    }

    private static void compareAll(OddsSolver x, Model model, String text) {
        for (int v = 0; v < 6; v++) {
            Check.due("firstOf", x.firstOf(v), model.firsts.get(v));
        }
        if (!model.explore()) {
            manyOnes++;
            Check.due("told 1 of " + text, x.told(1), -1);
            Check.due("print of " + text, x.print(), 0);
            Check.noState("worth of " + text, () -> x.worth());
            return;
        }
        solvedOnes++;
        largest = Math.max(largest, model.states.size());
        compareStates(x, model, text);
        compareOdds(x, model, text);
        compareEnds(x, model, text);
        compareClasses(x, model, text);
        compareRuns(x, model, text);
        Check.due("status of " + text, x.status(0) + x.status(1), 0);
    }

    private static void compareStates(OddsSolver x, Model model, String text) {
        int arcs = 0;
        int level = 0;
        for (int i = 0; i < model.states.size(); i++) {
            for (int what = 0; what < 7; what++) {
                Check.due("state " + i + " " + what + " of " + text, x.state(i, what), model.states.get(i).get(what));
            }
            Check.due("level " + i + " of " + text, x.state(i, 7), model.levels[i]);
            Check.due("trapped " + i + " of " + text, x.state(i, 8), model.trapped[i] ? 1 : 0);
            Check.due("arcs " + i + " of " + text, x.state(i, 9), model.arcs.get(i).size());
            for (int k = 0; k < model.arcs.get(i).size(); k++) {
                Check.due("arc of " + text, x.arc(i, k, 0), model.arcs.get(i).get(k).to());
                Check.due("arc of " + text, x.arc(i, k, 1), model.arcs.get(i).get(k).sixtieths());
            }
            arcs += model.arcs.get(i).size();
            level = Math.max(level, model.levels[i]);
        }
        int[] dues = {model.all.size(), model.states.size(), model.count(true), model.count(false), arcs, level, 0};
        for (int what = 0; what < dues.length; what++) {
            Check.due("told " + what + " of " + text, x.told(what), dues[what]);
        }
        Check.due("print of " + text, x.print(), model.print());
    }

    private static void compareOdds(OddsSolver x, Model model, String text) {
        if (!model.solved) {
            Check.due("total of " + text, x.total(0, 0), -3);
            return;
        }
        long ever = Math.floorMod(1 - model.ended() - model.broken(), Model.P);
        long[] totals = {model.ended(), model.broken(), ever};
        for (int form = 0; form < 3; form++) {
            for (int what = 0; what < 3; what++) {
                Check.due("total " + what + " of " + text, x.total(what, form), Model.inForm(totals[what], form));
            }
            Check.due("steps of " + text, x.steps(form),
                    model.count(false) > 0 ? -2 : Model.inForm(model.steps(), form));
        }
        for (int i = 0; i < model.states.size(); i++) {
            int form = i % 3;
            Check.due("visits " + i + " of " + text, x.visits(i, form),
                    model.trapped[i] ? -2 : Model.inForm(model.visits[i], form));
        }
        int[] numbers = {200, 0, 1, 5, 13, 40};
        for (int n : numbers) {
            Check.due("within " + n + " of " + text, x.within(n, 0), (int) model.within(n));
        }
    }

    private static void compareEnds(OddsSolver x, Model model, String text) {
        if (model.count(true) == 0) {
            Check.noState("mean of " + text, () -> x.mean(0, 0));
            return;
        }
        if (!model.solved || model.ended() == 0) {
            Check.due("mean of " + text, x.mean(0, 0), -3);
            return;
        }
        for (int v = 0; v < 6; v++) {
            for (int value = 0; value < 10; value++) {
                long odds = model.given(model.together(v, value, 0, -1));
                int form = (v + value) % 3;
                Check.due("value of " + text, x.value(v, value, form), Model.inForm(odds, form));
            }
            int form = v % 3;
            Check.due("mean of " + text, x.mean(v, form), Model.inForm(model.meanOf(v), form));
        }
        for (int v = 0; v < 6; v += 2) {
            for (int w = 0; w < 3; w++) {
                Check.due("independent of " + text, x.independent(v, w), model.independent(v, w));
                int a = model.states.get(model.states.size() - 1).get(1 + v);
                for (int b = 0; b < 10; b++) {
                    int form = b % 3;
                    long odds = model.given(model.together(v, a, w, b));
                    Check.due("both of " + text, x.both(v, a, w, b, form), Model.inForm(odds, form));
                }
            }
        }
    }

    private static void compareClasses(OddsSolver x, Model model, String text) {
        for (int v = 0; v < 6; v += 2) {
            int[] labels = model.classesBy(v);
            int most = 0;
            for (int i = 0; i < labels.length; i++) {
                Check.due("classOf " + v + " " + i + " of " + text, x.classOf(v, i), labels[i]);
                most = Math.max(most, labels[i]);
            }
            Check.due("classes " + v + " of " + text, x.classes(v), most + 1);
        }
    }

    private static void compareRuns(OddsSolver x, Model model, String text) {
        if (!model.tryRuns()) {
            return;
        }
        runs++;
        Check.due("worth of " + text, x.worth(), model.bestWorth);
        Check.due("run of " + text, x.run(-1), model.bestDraws == null ? -1 : model.bestDraws.size());
        for (int k = 0; k <= 10; k++) {
            boolean there = model.bestDraws != null && k < model.bestDraws.size();
            Check.due("run " + k + " of " + text, x.run(k), there ? model.bestDraws.get(k) : -1);
        }
    }
}
