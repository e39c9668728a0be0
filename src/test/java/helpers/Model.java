import java.util.ArrayList;
import java.util.Arrays;
import java.util.HashMap;
import java.util.List;
import java.util.Map;
import java.util.Random;
import java.util.TreeMap;

/**
 * The document once more, written as plainly as can be and without regard to speed, to compare answers with: programs
 * are trees, STATES are lists in a map, equations a full matrix, FRACTIONS are searched for, RUNS are tried one by one.
 */
final class Model {
    static final long P = 998244353L;

    /** A TERM is 0 to 9, or 10 and a VARIABLE; sign is 0 (one TERM), '+', '-'. */
    record Sum(int first, char sign, int second) {
        int of(List<Integer> values) {
            int a = first < 10 ? first : values.get(first - 10);
            int b = second < 10 ? second : values.get(second - 10);
            return sign == 0 ? a : Math.floorMod(sign == '+' ? a + b : a - b, 10);
        }

        String text() {
            return sign == 0 ? term(first) : term(first) + sign + term(second);
        }

        private static String term(int term) {
            return term < 10 ? "" + term : "" + (char) ('a' + term - 10);
        }
    }

    static final class Node {
        int number;
        int kind;
        int variable = -1;
        int amount = -1;
        Sum left;
        char relation;
        Sum right;
        List<Node> block = new ArrayList<>();
        List<Node> other = new ArrayList<>();
        Node owner;
        List<Node> among;

        boolean holds(List<Integer> values) {
            int a = left.of(values);
            int b = right.of(values);
            return relation == '=' ? a == b : relation == '<' ? a < b : a != b;
        }

        String text() {
            String test = left != null && right != null ? left.text() + relation + right.text() : "";
            switch (kind) {
                case 0: return (char) ('a' + variable) + "=" + left.text() + ";";
                case 1: return "draw " + (char) ('a' + variable) + " " + amount + ";";
                case 2: return "flip " + amount + blockText(block) + elseText();
                case 3: return "if " + test + blockText(block) + elseText();
                case 4: return "while " + test + blockText(block);
                case 5: return "observe " + test + ";";
                default: return "stop;";
            }
        }

        private String elseText() {
            return other.isEmpty() ? "" : "else" + blockText(other);
        }

        private static String blockText(List<Node> nodes) {
            return "{" + textOf(nodes) + "}";
        }
    }

    record Arc(int to, int sixtieths) {
    }

    final List<Node> top;
    final List<Node> all = new ArrayList<>();
    final List<Integer> firsts = new ArrayList<>(List.of(0, 0, 0, 0, 0, 0));
    List<List<Integer>> states;
    List<List<Arc>> arcs;
    int[] levels;
    boolean[] trapped;
    long[] visits;
    boolean solved;

    Model(List<Node> top) {
        this.top = top;
        number(top, null);
    }

    private void number(List<Node> nodes, Node owner) {
        for (Node node : nodes) {
            node.number = all.size();
            node.owner = owner;
            node.among = nodes;
            all.add(node);
            number(node.block, node);
            number(node.other, node);
        }
    }

    static String textOf(List<Node> nodes) {
        StringBuilder text = new StringBuilder();
        for (Node node : nodes) {
            text.append(node.text());
        }
        return text.toString();
    }

    int placeBehind(Node node) {
        int at = node.among.indexOf(node);
        if (at + 1 < node.among.size()) {
            return node.among.get(at + 1).number;
        }
        if (node.owner == null) {
            return all.size();
        }
        return node.owner.kind == 4 ? node.owner.number : placeBehind(node.owner);
    }

    int near(Node node) {
        if (node.kind == 6) {
            return all.size();
        }
        if (!node.block.isEmpty()) {
            return node.block.get(0).number;
        }
        return node.kind == 4 ? node.number : placeBehind(node);
    }

    int far(Node node) {
        if (node.kind == 5) {
            return all.size() + 1;
        }
        if (node.kind < 2 || node.kind == 6) {
            return -1;
        }
        return node.other.isEmpty() ? placeBehind(node) : node.other.get(0).number;
    }

    /** A state's list: its PLACE, then the VARIABLES. False: TOO MANY. */
    boolean explore() {
        states = new ArrayList<>();
        arcs = new ArrayList<>();
        Map<List<Integer>, Integer> known = new HashMap<>();
        List<Integer> start = new ArrayList<>(List.of(0));
        start.addAll(firsts);
        known.put(start, 0);
        states.add(start);
        for (int i = 0; i < states.size(); i++) {
            List<Arc> out = new ArrayList<>();
            arcs.add(out);
            for (Object[] way : ways(states.get(i))) {
                @SuppressWarnings("unchecked")
                List<Integer> target = (List<Integer>) way[0];
                if (target.get(0) == all.size() + 1) {
                    target = List.of(all.size() + 1, 0, 0, 0, 0, 0, 0);
                }
                Integer to = known.get(target);
                if (to == null) {
                    if (states.size() == 200) {
                        return false;
                    }
                    to = states.size();
                    known.put(target, to);
                    states.add(target);
                }
                out.add(new Arc(to, (Integer) way[1]));
            }
        }
        findLevels();
        findTrapped();
        solve();
        return true;
    }

    private List<Object[]> ways(List<Integer> state) {
        List<Object[]> ways = new ArrayList<>();
        if (state.get(0) >= all.size()) {
            return ways;
        }
        Node node = all.get(state.get(0));
        List<Integer> values = state.subList(1, 7);
        if (node.kind == 0) {
            ways.add(new Object[] {moved(state, near(node), node.variable, node.left.of(values)), 60});
        } else if (node.kind == 1) {
            for (int x = 0; x < node.amount; x++) {
                ways.add(new Object[] {moved(state, near(node), node.variable, x), 60 / node.amount});
            }
        } else if (node.kind == 2) {
            if (node.amount > 0) {
                ways.add(new Object[] {moved(state, near(node), -1, 0), node.amount});
            }
            if (node.amount < 60) {
                ways.add(new Object[] {moved(state, far(node), -1, 0), 60 - node.amount});
            }
        } else {
            boolean into = node.kind == 6 || node.holds(values);
            ways.add(new Object[] {moved(state, into ? near(node) : far(node), -1, 0), 60});
        }
        return ways;
    }

    private static List<Integer> moved(List<Integer> state, int place, int v, int x) {
        List<Integer> target = new ArrayList<>(state);
        target.set(0, place);
        if (v >= 0) {
            target.set(1 + v, x);
        }
        return target;
    }

    boolean atEnd(int i) {
        return states.get(i).get(0) == all.size();
    }

    boolean atBroken(int i) {
        return states.get(i).get(0) == all.size() + 1;
    }

    private void findLevels() {
        levels = new int[states.size()];
        Arrays.fill(levels, Integer.MAX_VALUE / 2);
        levels[0] = 0;
        for (int round = 0; round < states.size(); round++) {
            for (int i = 0; i < states.size(); i++) {
                for (Arc arc : arcs.get(i)) {
                    levels[arc.to] = Math.min(levels[arc.to], levels[i] + 1);
                }
            }
        }
    }

    private void findTrapped() {
        trapped = new boolean[states.size()];
        for (int i = 0; i < states.size(); i++) {
            boolean[] seen = new boolean[states.size()];
            List<Integer> open = new ArrayList<>(List.of(i));
            seen[i] = true;
            trapped[i] = true;
            while (!open.isEmpty()) {
                int at = open.remove(open.size() - 1);
                if (arcs.get(at).isEmpty()) {
                    trapped[i] = false;
                }
                for (Arc arc : arcs.get(at)) {
                    if (!seen[arc.to]) {
                        seen[arc.to] = true;
                        open.add(arc.to);
                    }
                }
            }
        }
    }

    static long power(long base, long exponent) {
        long product = 1;
        for (long e = exponent, b = Math.floorMod(base, P); e > 0; e /= 2, b = b * b % P) {
            product = e % 2 == 1 ? product * b % P : product;
        }
        return product;
    }

    static long odds(int sixtieths) {
        return sixtieths * power(60, P - 2) % P;
    }

    /** All STATES are unknowns here; x of a TRAPPED one is put to 0. Columns are gone through from the last one on. */
    private void solve() {
        int n = states.size();
        long[][] m = new long[n][n + 1];
        for (int i = 0; i < n; i++) {
            m[i][i] = 1;
            m[i][n] = i == 0 && !trapped[0] ? 1 : 0;
        }
        for (int j = 0; j < n; j++) {
            for (Arc arc : arcs.get(j)) {
                if (!trapped[j] && !trapped[arc.to]) {
                    m[arc.to][j] = Math.floorMod(m[arc.to][j] - odds(arc.sixtieths), P);
                }
            }
        }
        solved = true;
        boolean[] used = new boolean[n];
        int[] rowOf = new int[n];
        for (int c = n - 1; c >= 0 && solved; c--) {
            int pivot = -1;
            for (int r = 0; r < n; r++) {
                pivot = !used[r] && m[r][c] != 0 ? r : pivot;
            }
            if (pivot < 0) {
                solved = false;
                return;
            }
            used[pivot] = true;
            rowOf[c] = pivot;
            long inverse = power(m[pivot][c], P - 2);
            for (int k = 0; k <= n; k++) {
                m[pivot][k] = m[pivot][k] * inverse % P;
            }
            for (int r = 0; r < n; r++) {
                long factor = m[r][c];
                for (int k = 0; r != pivot && factor != 0 && k <= n; k++) {
                    m[r][k] = Math.floorMod(m[r][k] - factor * m[pivot][k], P);
                }
            }
        }
        visits = new long[n];
        for (int c = 0; c < n; c++) {
            visits[c] = m[rowOf[c]][n];
        }
    }

    static int inForm(long number, int form) {
        for (int d = 1; form > 0 && d <= 20000; d++) {
            long upper = d * number % P;
            if (upper <= 20000) {
                return form == 1 ? (int) upper : d;
            }
        }
        return form == 0 ? (int) number : -1;
    }

    int count(boolean ofEnds) {
        int count = 0;
        for (int i = 0; i < states.size(); i++) {
            count += (ofEnds ? atEnd(i) : trapped[i]) ? 1 : 0;
        }
        return count;
    }

    long together(int v, int x, int w, int y) {
        long sum = 0;
        for (int i = 0; i < states.size(); i++) {
            if (atEnd(i) && (x < 0 || states.get(i).get(1 + v) == x) && (y < 0 || states.get(i).get(1 + w) == y)) {
                sum += visits[i];
            }
        }
        return sum % P;
    }

    long ended() {
        return together(0, -1, 0, -1);
    }

    long broken() {
        for (int i = 0; i < states.size(); i++) {
            if (atBroken(i)) {
                return visits[i];
            }
        }
        return 0;
    }

    long given(long part) {
        return part * power(ended(), P - 2) % P;
    }

    long meanOf(int v) {
        long sum = 0;
        for (int x = 0; x < 10; x++) {
            sum += x * given(together(v, x, 0, -1)) % P;
        }
        return sum % P;
    }

    int independent(int v, int w) {
        for (int x = 0; x < 10; x++) {
            for (int y = 0; y < 10; y++) {
                long product = given(together(v, x, 0, -1)) * given(together(w, y, 0, -1)) % P;
                if (given(together(v, x, w, y)) != product) {
                    return 0;
                }
            }
        }
        return 1;
    }

    long steps() {
        long sum = 0;
        for (int i = 0; i < states.size(); i++) {
            sum += arcs.get(i).isEmpty() ? 0 : visits[i];
        }
        return sum % P;
    }

    long within(int n) {
        long[] here = new long[states.size()];
        here[0] = 1;
        for (int step = 0; step < n; step++) {
            long[] there = new long[states.size()];
            for (int i = 0; i < states.size(); i++) {
                if (arcs.get(i).isEmpty()) {
                    there[i] = (there[i] + here[i]) % P;
                }
                for (Arc arc : arcs.get(i)) {
                    there[arc.to] = (there[arc.to] + here[i] * odds(arc.sixtieths)) % P;
                }
            }
            here = there;
        }
        long sum = 0;
        for (int i = 0; i < states.size(); i++) {
            sum += atEnd(i) ? here[i] : 0;
        }
        return sum % P;
    }

    /** Labels of all STATES, numbered by the least of each. */
    int[] classesBy(int v) {
        int n = states.size();
        int[] labels = new int[n];
        for (int i = 0; i < n; i++) {
            labels[i] = atEnd(i) ? states.get(i).get(1 + v) : atBroken(i) ? 10 : 11;
        }
        labels = numbered(labels);
        for (int round = 0; round <= n; round++) {
            Map<String, Integer> known = new HashMap<>();
            int[] finer = new int[n];
            for (int i = 0; i < n; i++) {
                Map<Integer, Integer> flow = new TreeMap<>();
                for (Arc arc : arcs.get(i)) {
                    flow.merge(labels[arc.to], arc.sixtieths, Integer::sum);
                }
                finer[i] = known.computeIfAbsent(labels[i] + ":" + flow, key -> known.size());
            }
            labels = numbered(finer);
        }
        return labels;
    }

    private static int[] numbered(int[] labels) {
        Map<Integer, Integer> numbers = new HashMap<>();
        int[] result = new int[labels.length];
        for (int i = 0; i < labels.length; i++) {
            Integer number = numbers.get(labels[i]);
            if (number == null) {
                number = numbers.size();
                numbers.put(labels[i], number);
            }
            result[i] = number;
        }
        return result;
    }

    long bestWorth;
    List<Integer> bestDraws;
    private int tries;

    /** False: there are too many RUNS to try them all. bestDraws is null if there is no RUN. */
    boolean tryRuns() {
        bestWorth = -1;
        bestDraws = null;
        tries = 0;
        return tryFrom(0, new ArrayList<>(), 1, 0);
    }

    private boolean tryFrom(int from, List<Integer> draws, long product, int plainSteps) {
        tries++;
        if (tries > 300000) {
            return false;
        }
        int at = from;
        for (int step = 0; step < 300; step++) {
            if (atEnd(at)) {
                weigh(draws, product);
                return true;
            }
            if (atBroken(at)) {
                return true;
            }
            Node node = all.get(states.get(at).get(0));
            if (node.kind == 1 || node.kind == 2) {
                return tryDraws(at, node, draws, product);
            }
            at = arcs.get(at).get(0).to;
        }
        return true;
    }

    private boolean tryDraws(int at, Node node, List<Integer> draws, long product) {
        if (draws.size() == 10) {
            return true;
        }
        for (int k = 0; k < arcs.get(at).size(); k++) {
            Arc arc = arcs.get(at).get(k);
            int drawn = node.kind == 1 ? k : arcs.get(at).size() == 2 ? 1 - k : node.amount / 60;
            draws.add(drawn);
            boolean all = tryFrom(arc.to, draws, product * arc.sixtieths, 0);
            draws.remove(draws.size() - 1);
            if (!all) {
                return false;
            }
        }
        return true;
    }

    /** RUNS are tried in the order of their DRAWS, so the first of like ones stays. */
    private void weigh(List<Integer> draws, long product) {
        long worth = product;
        for (int k = draws.size(); k < 10; k++) {
            worth *= 60;
        }
        if (worth > bestWorth || worth == bestWorth && draws.size() < bestDraws.size()) {
            bestWorth = worth;
            bestDraws = new ArrayList<>(draws);
        }
    }

    long print() {
        long sum = 0;
        for (List<Integer> state : states) {
            sum = 31 * sum + state.get(0);
            long values = 0;
            for (int v = 1; v <= 6; v++) {
                values = 10 * values + state.get(v);
            }
            sum = 31 * sum + values;
        }
        return sum;
    }

    static List<Node> randomNodes(Random random, int most, int depth, int variables) {
        List<Node> nodes = new ArrayList<>();
        int count = random.nextInt(most + 1);
        for (int k = 0; k < count; k++) {
            nodes.add(randomNode(random, depth, variables));
        }
        return nodes;
    }

    private static Node randomNode(Random random, int depth, int variables) {
        Node node = new Node();
        int[] kinds = {0, 0, 0, 1, 1, 1, 2, 2, 2, 2, 3, 3, 4, 4, 5, 6};
        node.kind = kinds[random.nextInt(kinds.length)];
        while (depth == 0 && node.kind >= 2 && node.kind <= 4) {
            node.kind = kinds[random.nextInt(kinds.length)];
        }
        if (node.kind < 2) {
            node.variable = random.nextInt(variables);
        }
        if (node.kind == 0 || node.kind >= 3 && node.kind <= 5) {
            node.left = randomSum(random, variables);
        }
        if (node.kind >= 3 && node.kind <= 5) {
            node.relation = "=<#".charAt(random.nextInt(3));
            node.right = randomSum(random, variables);
        }
        if (node.kind == 1) {
            int[] sizes = {2, 2, 2, 3, 3, 4, 5, 6, 10};
            node.amount = sizes[random.nextInt(sizes.length)];
        }
        if (node.kind == 2) {
            int[] chances = {0, 60, 30, 30, 20, 15, 45, 12, random.nextInt(61)};
            node.amount = chances[random.nextInt(chances.length)];
        }
        if (node.kind >= 2 && node.kind <= 4) {
            node.block = randomNodes(random, 3, depth - 1, variables);
        }
        if (node.kind == 2 || node.kind == 3) {
            node.other = random.nextBoolean() ? new ArrayList<>() : randomNodes(random, 2, depth - 1, variables);
        }
        return node;
    }

    private static Sum randomSum(Random random, int variables) {
        char[] signs = {0, 0, '+', '-'};
        return new Sum(randomTerm(random, variables), signs[random.nextInt(4)], randomTerm(random, variables));
    }

    private static int randomTerm(Random random, int variables) {
        return random.nextInt(3) == 0 ? random.nextInt(random.nextBoolean() ? 3 : 10) : 10 + random.nextInt(variables);
    }
}
