import java.util.Random;
import java.util.function.IntUnaryOperator;

/**
 * Random programs, their equations solved once more in fractions of any size, by the STATES and ARCS that the class
 * itself tells: its numbers are the true ones modulo P, and its FRACTIONS the true ones where these are small.
 */
public final class TrueOddsRuns {
    private static final int MOST_STATES = 45;
    private static final Ratio ALL_DRAWS = Ratio.of(604661760000000000L, 1);
    private static int solvedOnes = 0;
    private static int smallOnes = 0;

    public static void main(String[] args) {
        int programs = args.length > 0 ? Integer.parseInt(args[0]) : 600;
        long seed = args.length > 1 ? Long.parseLong(args[1]) : 7;
        for (int k = 0; k < programs; k++) {
            Random random = new Random(seed * 1000003 + k);
            String text = Model.textOf(Model.randomNodes(random, 6, 3, 1 + random.nextInt(3)));
            OddsSolver x = new OddsSolver();
            if (text.length() <= 400 && Check.tell(x, text) >= 0 && x.told(1) > 0 && x.told(1) <= MOST_STATES) {
                solvedOnes++;
                compare(x, text);
            }
        }
        System.out.println(solvedOnes + " programs, " + smallOnes + " small fractions");
        Check.due("enough programs", solvedOnes > programs / 2 ? 1 : 0, 1);
        Check.due("enough small fractions", smallOnes > solvedOnes ? 1 : 0, 1);
        Check.close();
    }

    private static void compare(OddsSolver x, String text) {
        Ratio[] visits = solve(x);
        int states = x.told(1);
        int end = x.told(0);
        Ratio ended = Ratio.ZERO;
        Ratio broken = Ratio.ZERO;
        Ratio steps = Ratio.ZERO;
        for (int i = 0; i < states; i++) {
            int state = i;
            if (x.state(i, 8) == 1) {
                Check.due("visits " + i + " of " + text, x.visits(i, 0), -2);
                continue;
            }
            due("visits " + i + " of " + text, form -> x.visits(state, form), visits[i]);
            ended = ended.plus(x.state(i, 0) == end ? visits[i] : Ratio.ZERO);
            broken = broken.plus(x.state(i, 0) == end + 1 ? visits[i] : Ratio.ZERO);
            steps = steps.plus(x.state(i, 9) > 0 ? visits[i] : Ratio.ZERO);
        }
        Ratio forEver = Ratio.ONE.less(ended).less(broken);
        due("ENDED of " + text, form -> x.total(0, form), ended);
        due("BROKEN of " + text, form -> x.total(1, form), broken);
        due("FOR EVER of " + text, form -> x.total(2, form), forEver);
        Check.due("it may go on for ever just if some are TRAPPED: " + text, forEver.sign(), x.told(3) > 0 ? 1 : 0);
        if (x.told(3) == 0) {
            due("steps of " + text, x::steps, steps);
        }
        compareWithin(x, text, ended);
        compareWorth(x, text, ended);
        if (ended.sign() > 0) {
            compareEnds(x, text, visits, ended);
        }
    }

    /** x of one less what comes there by ARCS is 1 of START, 0 of others; unknowns are those not TRAPPED. */
    private static Ratio[] solve(OddsSolver x) {
        int n = x.told(1);
        Ratio[][] rows = new Ratio[n][n + 1];
        for (int i = 0; i < n; i++) {
            java.util.Arrays.fill(rows[i], Ratio.ZERO);
            rows[i][i] = Ratio.ONE;
        }
        rows[0][n] = x.state(0, 8) == 0 ? Ratio.ONE : Ratio.ZERO;
        for (int i = 0; i < n; i++) {
            for (int k = 0; k < x.state(i, 9) && x.state(i, 8) == 0; k++) {
                int to = x.arc(i, k, 0);
                if (x.state(to, 8) == 0) {
                    rows[to][i] = rows[to][i].less(Ratio.of(x.arc(i, k, 1), 60));
                }
            }
        }
        for (int c = 0; c < n; c++) {
            // some STATE is left from each: so no pivot in turn is 0
            for (int k = n; k >= c; k--) {
                rows[c][k] = rows[c][k].by(rows[c][c]);
            }
            for (int r = 0; r < n; r++) {
                Ratio factor = rows[r][c];
                for (int k = c; r != c && factor.sign() != 0 && k <= n; k++) {
                    rows[r][k] = rows[r][k].less(factor.times(rows[c][k]));
                }
            }
        }
        Ratio[] visits = new Ratio[n];
        for (int i = 0; i < n; i++) {
            visits[i] = rows[i][n];
        }
        return visits;
    }

    private static void due(String call, IntUnaryOperator inForm, Ratio want) {
        if (want.isNone()) {
            return;
        }
        Check.due(call, inForm.applyAsInt(0), want.moduloP());
        if (want.isSmall()) {
            smallOnes++;
            Check.due(call + ", the upper", inForm.applyAsInt(1), want.upper().longValueExact());
            Check.due(call + ", the lower", inForm.applyAsInt(2), want.lower().longValueExact());
        }
    }

    private static void compareEnds(OddsSolver x, String text, Ratio[] visits, Ratio ended) {
        Ratio[][] couples = new Ratio[10][10];
        for (int v = 0; v < 3; v++) {
            int one = v;
            int other = (v + 1) % 3;
            for (Ratio[] row : couples) {
                java.util.Arrays.fill(row, Ratio.ZERO);
            }
            for (int i = 0; i < visits.length; i++) {
                if (x.state(i, 0) == x.told(0)) {
                    int a = x.state(i, 1 + one);
                    int b = x.state(i, 1 + other);
                    couples[a][b] = couples[a][b].plus(visits[i].by(ended));
                }
            }
            compareCouples(x, text, couples, one, other);
        }
    }

    private static void compareCouples(OddsSolver x, String text, Ratio[][] couples, int v, int w) {
        Ratio[] firsts = new Ratio[10];
        Ratio[] seconds = new Ratio[10];
        java.util.Arrays.fill(firsts, Ratio.ZERO);
        java.util.Arrays.fill(seconds, Ratio.ZERO);
        Ratio mean = Ratio.ZERO;
        for (int k = 0; k < 100; k++) {
            int a = k / 10;
            int b = k % 10;
            firsts[a] = firsts[a].plus(couples[a][b]);
            seconds[b] = seconds[b].plus(couples[a][b]);
            mean = mean.plus(Ratio.of(a, 1).times(couples[a][b]));
            due("both of " + text, form -> x.both(v, a, w, b, form), couples[a][b]);
        }
        boolean independent = true;
        for (int k = 0; k < 100; k++) {
            int a = k / 10;
            independent = independent && couples[a][k % 10].equals(firsts[a].times(seconds[k % 10]));
            due("value of " + text, form -> x.value(v, a, form), firsts[a]);
        }
        due("mean of " + text, form -> x.mean(v, form), mean);
        Check.due("independent of " + text, x.independent(v, w), independent ? 1 : 0);
        Check.due("independent of " + text, x.independent(w, v), independent ? 1 : 0);
    }

    /** Where all ARCS lead to later STATES nothing goes on behind as many ARCS as there are STATES. */
    private static void compareWithin(OddsSolver x, String text, Ratio ended) {
        int states = x.told(1);
        boolean onwards = true;
        Ratio[] here = new Ratio[states];
        java.util.Arrays.fill(here, Ratio.ZERO);
        here[0] = Ratio.ONE;
        Ratio sum = Ratio.ZERO;
        for (int n = 0; n <= 12; n++) {
            Ratio[] there = new Ratio[states];
            java.util.Arrays.fill(there, Ratio.ZERO);
            for (int i = 0; i < states; i++) {
                sum = sum.plus(x.state(i, 0) == x.told(0) ? here[i] : Ratio.ZERO);
                for (int k = 0; k < x.state(i, 9); k++) {
                    int to = x.arc(i, k, 0);
                    onwards = onwards && to > i;
                    there[to] = there[to].plus(here[i].times(Ratio.of(x.arc(i, k, 1), 60)));
                }
            }
            int arcs = n;
            due("within " + n + " of " + text, form -> x.within(arcs, form), sum);
            here = there;
        }
        if (onwards) {
            due("within 200 of " + text, form -> x.within(200, form), ended);
        }
    }

    /** One RUN has no more odds than all that end. */
    private static void compareWorth(OddsSolver x, String text, Ratio ended) {
        long worth = x.worth();
        if (worth > 0) {
            Check.due("worth of " + text, ended.less(Ratio.of(worth, 1).by(ALL_DRAWS)).sign() >= 0 ? 1 : 0, 1);
        } else {
            Check.due("worth of " + text, worth, -1);
            Check.due("run of " + text, x.run(-1), -1);
        }
    }
}
