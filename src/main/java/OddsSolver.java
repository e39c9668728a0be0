import java.util.Arrays;
import java.util.NoSuchElementException;

/**
 * A solver of small chance programs. The words in capitals are those of the document (DOC.md, "Terms").
 */
public final class OddsSolver {
    public static final int NONE = -1;

    private static final int VARIABLES = 6;
    private static final int VALUES = 10;
    private static final int MOST_BYTES = 400;
    private static final int FED_BYTES = 20;
    private static final int MOST_STATEMENTS = 40;
    private static final int MOST_BLOCKS = 6;
    private static final int MOST_STATES = 200;
    private static final int MOST_ARCS = 2000;
    private static final int MOST_DRAWS = 10;
    private static final int MOST_CHANGES = 12;
    private static final int WHOLE = 60;
    private static final int TRAPPED = -2;
    private static final int UNSOLVED = -3;

    private static final int ASSIGN = 0;
    private static final int DRAW = 1;
    private static final int FLIP = 2;
    private static final int IF = 3;
    private static final int WHILE = 4;
    private static final int OBSERVE = 5;
    private static final int STOP = 6;

    private final Reader reader;
    private int faultPlace;
    private Program program;
    private int firstValues;
    private final Changes changes;
    private final Graph graph;
    private final Equations equations;
    private final Spread spread;
    private final Lumps lumps;
    private final Likeliest likeliest;
    private final int[] refused;

    public OddsSolver() {
        reader = new Reader();
        faultPlace = NONE;
        program = new Program();
        changes = new Changes();
        graph = new Graph();
        equations = new Equations();
        spread = new Spread();
        lumps = new Lumps();
        likeliest = new Likeliest();
        refused = new int[3];
    }

    public int feed(int a, int b, int c, int d, int e) {
        if (reader.taped + FED_BYTES > MOST_BYTES) {
            return NONE;
        }
        reader.put(a);
        reader.put(b);
        reader.put(c);
        reader.put(d);
        reader.put(e);
        return reader.taped;
    }

    public int text(int n) throws IllegalArgumentException {
        needNumber(n, 0, reader.taped);
        int found = reader.read(n);
        faultPlace = reader.faultPlace();
        if (found != 0) {
            return found - 10;
        }
        program = reader.exchange(program);
        firstValues = 0;
        changes.clear();
        graph.forget();
        return program.count;
    }

    public int fault() {
        return faultPlace;
    }

    public int first(int v, int x) throws NoSuchElementException, IllegalArgumentException {
        needVariable(v);
        needNumber(x, 0, VALUES - 1);
        int was = Digits.get(firstValues, v);
        changes.keep(v, was);
        firstValues = Digits.put(firstValues, v, x);
        graph.forget();
        return was;
    }

    public int chance(int statement, int n) throws NoSuchElementException, IllegalArgumentException {
        needStatement(statement);
        needNumber(n, 0, WHOLE);
        if (program.kinds[statement] != FLIP) {
            refuseArgument();
        }
        int was = program.numbers[statement];
        changes.keep(VARIABLES + statement, was);
        program.numbers[statement] = n;
        graph.forget();
        return was;
    }

    public int undo() {
        if (changes.count == 0) {
            return NONE;
        }
        int where = changes.latestWhere();
        int was = changes.latestWas();
        changes.drop();
        if (where < VARIABLES) {
            firstValues = Digits.put(firstValues, where, was);
        } else if (where - VARIABLES < MOST_STATEMENTS) {
            program.numbers[where - VARIABLES] = was;
        }
        graph.forget();
        return changes.count;
    }

    public int told(int what) throws IllegalArgumentException {
        needNumber(what, 0, 7);
        if (what == 0) {
            return program.count;
        }
        if (what == 6) {
            return reader.taped;
        }
        if (what == 7) {
            return changes.count;
        }
        graph.explore(program, firstValues);
        if (graph.tooMany) {
            return NONE;
        }
        switch (what) {
            case 1:
                return graph.count;
            case 2:
                return graph.ends;
            case 3:
                return graph.trappedOnes;
            case 4:
                return graph.arcs;
            default:
                return graph.greatestLevel();
        }
    }

    public int statement(int k, int what) throws NoSuchElementException, IllegalArgumentException {
        needStatement(k);
        needNumber(what, 0, 4);
        int kind = program.kinds[k];
        switch (what) {
            case 0:
                return kind;
            case 1:
                return kind == ASSIGN || kind == DRAW ? program.variables[k] : NONE;
            case 2:
                return kind == DRAW || kind == FLIP ? program.numbers[k] : NONE;
            case 3:
                return program.near[k];
            default:
                return program.far[k];
        }
    }

    public int firstOf(int v) throws NoSuchElementException {
        needVariable(v);
        return Digits.get(firstValues, v);
    }

    public int state(int i, int what)
            throws IllegalStateException, NoSuchElementException, IllegalArgumentException {
        needStates();
        needState(i);
        needNumber(what, 0, 9);
        switch (what) {
            case 0:
                return graph.places[i];
            case 7:
                return graph.levels[i];
            case 8:
                return graph.trapped[i] ? 1 : 0;
            case 9:
                return graph.arcsOf(i);
            default:
                return Digits.get(graph.values[i], what - 1);
        }
    }

    public int arc(int i, int k, int what)
            throws IllegalStateException, NoSuchElementException, IllegalArgumentException {
        needStates();
        needState(i);
        if (k < 0 || k >= graph.arcsOf(i)) {
            refuseElement();
        }
        needNumber(what, 0, 1);
        int at = graph.arcsFrom[i] + k;
        return what == 0 ? graph.targets[at] : graph.shares[at];
    }

    public int total(int what, int form) throws IllegalStateException, IllegalArgumentException {
        needStates();
        needNumber(what, 0, 2);
        needForm(form);
        if (!equations.solve(graph)) {
            return UNSOLVED;
        }
        switch (what) {
            case 0:
                return Field.inForm(equations.ended, form);
            case 1:
                return Field.inForm(equations.broken, form);
            default:
                return Field.inForm(equations.forEver(), form);
        }
    }

    public int value(int v, int x, int form)
            throws IllegalStateException, NoSuchElementException, IllegalArgumentException {
        needStates();
        needVariable(v);
        needNumber(x, 0, VALUES - 1);
        needForm(form);
        needEnd();
        return coupleInForm(v, x, v, x, form);
    }

    public int both(int v, int x, int w, int y, int form)
            throws IllegalStateException, NoSuchElementException, IllegalArgumentException {
        needStates();
        needVariable(v);
        needVariable(w);
        needNumber(x, 0, VALUES - 1);
        needNumber(y, 0, VALUES - 1);
        needForm(form);
        needEnd();
        return coupleInForm(v, x, w, y, form);
    }

    public int mean(int v, int form)
            throws IllegalStateException, NoSuchElementException, IllegalArgumentException {
        needStates();
        needVariable(v);
        needForm(form);
        needEnd();
        if (!equations.canDivide(graph)) {
            return UNSOLVED;
        }
        return Field.inForm(equations.shareOfEnded(equations.valuesTogether(graph, v)), form);
    }

    public int independent(int v, int w) throws IllegalStateException, NoSuchElementException {
        needStates();
        needVariable(v);
        needVariable(w);
        needEnd();
        if (!equations.canDivide(graph)) {
            return UNSOLVED;
        }
        return equations.areIndependent(graph, v, w) ? 1 : 0;
    }

    public int visits(int i, int form)
            throws IllegalStateException, NoSuchElementException, IllegalArgumentException {
        needStates();
        needState(i);
        needForm(form);
        if (graph.trapped[i]) {
            return TRAPPED;
        }
        if (!equations.solve(graph)) {
            return UNSOLVED;
        }
        return Field.inForm(equations.visited[i], form);
    }

    public int steps(int form) throws IllegalStateException, IllegalArgumentException {
        needStates();
        needForm(form);
        if (graph.trappedOnes > 0) {
            return TRAPPED;
        }
        if (!equations.solve(graph)) {
            return UNSOLVED;
        }
        return Field.inForm(equations.steps, form);
    }

    public int within(int n, int form) throws IllegalStateException, IllegalArgumentException {
        needStates();
        needNumber(n, 0, Spread.MOST_STEPS);
        needForm(form);
        return Field.inForm(spread.endedBy(graph, n), form);
    }

    public int classes(int v) throws IllegalStateException, NoSuchElementException {
        needStates();
        needVariable(v);
        lumps.find(graph, v);
        return lumps.countBy(v);
    }

    public int classOf(int v, int i) throws IllegalStateException, NoSuchElementException {
        needStates();
        needVariable(v);
        needState(i);
        lumps.find(graph, v);
        return lumps.labelBy(v, i);
    }

    public int run(int k) throws IllegalStateException {
        needStates();
        likeliest.find(graph, program);
        if (!likeliest.exists()) {
            return NONE;
        }
        if (k == NONE) {
            return likeliest.count;
        }
        return k >= 0 && k < likeliest.count ? likeliest.draws[k] : NONE;
    }

    public long worth() throws IllegalStateException {
        needStates();
        likeliest.find(graph, program);
        return likeliest.exists() ? likeliest.most : NONE;
    }

    public long print() {
        graph.explore(program, firstValues);
        long sum = 0;
        for (int i = 0; i < graph.count && !graph.tooMany; i++) {
            sum = 31 * sum + graph.places[i];
            sum = 31 * sum + graph.values[i];
        }
        return sum;
    }

    public int status(int what) {
        return what >= 0 && what < refused.length ? refused[what] : NONE;
    }

    private void needStates() {
        graph.explore(program, firstValues);
        if (graph.tooMany) {
            refuseState();
        }
    }

    private void needEnd() {
        if (graph.ends == 0) {
            refuseState();
        }
    }

    private void needVariable(int v) {
        if (v < 0 || v >= VARIABLES) {
            refuseElement();
        }
    }

    private void needStatement(int k) {
        if (k < 0 || k >= program.count) {
            refuseElement();
        }
    }

    private void needState(int i) {
        if (i < 0 || i >= graph.count) {
            refuseElement();
        }
    }

    private void needNumber(int number, int least, int most) {
        if (number < least || number > most) {
            refuseArgument();
        }
    }

    private void needForm(int form) {
        needNumber(form, 0, 2);
    }

    private void refuseElement() {
        refused[0]++;
        throw new NoSuchElementException("no such variable, statement, state or arc");
    }

    private void refuseArgument() {
        refused[1]++;
        throw new IllegalArgumentException("a number that can't stand here");
    }

    private void refuseState() {
        refused[2]++;
        throw new IllegalStateException("too many states, or none at the end");
    }

    private int coupleInForm(int v, int x, int w, int y, int form) {
        if (!equations.canDivide(graph)) {
            return UNSOLVED;
        }
        return Field.inForm(equations.shareOfEnded(equations.coupleTogether(graph, v, x, w, y)), form);
    }

    /** All VARIABLES as one number, a first: it names a STATE together with its PLACE, and print() asks for it. */
    private static final class Digits {
        private static final int[] UNITS = {100000, 10000, 1000, 100, 10, 1};

        static int get(int values, int v) {
            return v >= 0 && v < VARIABLES ? values / UNITS[v] % 10 : 0;
        }

        static int put(int values, int v, int x) {
            return v >= 0 && v < VARIABLES ? values + (x - get(values, v)) * UNITS[v] : values;
        }
    }

    /** Numbers modulo P; all of them are 0 to P less 1. */
    private static final class Field {
        private static final int P = 998244353;
        private static final int INVERSE_OF_60 = 715408453;
        private static final int SMALL = 20000;

        static int plus(int a, int b) {
            int sum = a + b;
            return sum >= P ? sum - P : sum;
        }

        static int less(int a, int b) {
            return a >= b ? a - b : a - b + P;
        }

        static int times(int a, int b) {
            return (int) ((long) a * b % P);
        }

        static int sixtieth(int a) {
            return times(a, INVERSE_OF_60);
        }

        static int inverse(int a) {
            int power = a;
            int product = 1;
            for (int rest = P - 2; rest > 0; rest >>= 1) {
                if ((rest & 1) == 1) {
                    product = times(product, power);
                }
                power = times(power, power);
            }
            return product;
        }

        /**
         * Two fractions of numbers up to 20,000 that are one number modulo P are equal, and 2 * 20,000 * 20,000 is
         * less than P: so, if there is such a fraction, the first small rest of Euclid's division is its upper number.
         */
        static int inForm(int number, int form) {
            if (form == 0) {
                return number;
            }
            long over = P;
            long under = number;
            long overFactor = 0;
            long underFactor = 1;
            for (int step = 0; step < 64 && under > SMALL; step++) {
                long fits = over / under;
                long rest = over - fits * under;
                long restFactor = overFactor - fits * underFactor;
                over = under;
                under = rest;
                overFactor = underFactor;
                underFactor = restFactor;
            }
            if (underFactor < 1 || underFactor > SMALL) {
                return NONE;
            }
            return (int) (form == 1 ? under : underFactor);
        }
    }

    /** The latest changes that undo() can take back: where (a VARIABLE, or behind these a STATEMENT), what it was. */
    private static final class Changes {
        int count;
        private final int[] where = new int[MOST_CHANGES];
        private final int[] was = new int[MOST_CHANGES];

        void keep(int place, int number) {
            if (count == MOST_CHANGES) {
                System.arraycopy(where, 1, where, 0, MOST_CHANGES - 1);
                System.arraycopy(was, 1, was, 0, MOST_CHANGES - 1);
                count--;
            }
            where[count] = place;
            was[count] = number;
            count++;
        }

        int latestWhere() {
            return count > 0 ? where[count - 1] : 0;
        }

        int latestWas() {
            return count > 0 ? was[count - 1] : 0;
        }

        void drop() {
            if (count > 0) {
                count--;
            }
        }

        void clear() {
            count = 0;
        }
    }

    /** The STATEMENTS. A SUM is one number: its first TERM, 16 times its second one, 256 times its sign. */
    private static final class Program {
        static final int PLUS = 1;
        static final int MINUS = 2;

        int count;
        final int[] kinds = new int[MOST_STATEMENTS];
        final int[] variables = new int[MOST_STATEMENTS];
        final int[] numbers = new int[MOST_STATEMENTS];
        final int[] lefts = new int[MOST_STATEMENTS];
        final int[] relations = new int[MOST_STATEMENTS];
        final int[] rights = new int[MOST_STATEMENTS];
        final int[] near = new int[MOST_STATEMENTS];
        final int[] far = new int[MOST_STATEMENTS];
        private final int[] owners = new int[MOST_STATEMENTS];
        private final int[] behind = new int[MOST_STATEMENTS];

        void clear() {
            count = 0;
        }

        boolean isFull() {
            return count >= MOST_STATEMENTS;
        }

        /**
         * There is room for one more: isFull() is asked first. Until link() near and far are the first STATEMENTS of the
         * BLOCKS, NONE of an empty one, and behind the one that follows in the same BLOCK.
         */
        int begin(int kind, int owner, int before, boolean inElse) {
            int s = count;
            count++;
            if (before != NONE) {
                behind[before] = s;
            } else if (owner != NONE && inElse) {
                far[owner] = s;
            } else if (owner != NONE) {
                near[owner] = s;
            }
            kinds[s] = kind;
            variables[s] = NONE;
            numbers[s] = NONE;
            lefts[s] = 0;
            relations[s] = 0;
            rights[s] = 0;
            near[s] = NONE;
            far[s] = NONE;
            owners[s] = owner;
            behind[s] = NONE;
            return s;
        }

        static int sum(int first, int sign, int second) {
            return first + 16 * second + 256 * sign;
        }

        void link() {
            for (int s = 0; s < count; s++) {
                behind[s] = placeBehind(s);
            }
            for (int s = 0; s < count; s++) {
                int kind = kinds[s];
                if (kind == STOP) {
                    near[s] = count;
                } else if (near[s] == NONE) {
                    near[s] = kind == WHILE ? s : behind[s];
                }
                if (kind == OBSERVE) {
                    far[s] = count + 1;
                } else if (far[s] == NONE && (kind == FLIP || kind == IF || kind == WHILE)) {
                    far[s] = behind[s];
                }
            }
        }

        /** An owner has the lesser number, so what is behind it is known already. */
        private int placeBehind(int s) {
            if (behind[s] != NONE) {
                return behind[s];
            }
            int owner = owners[s];
            if (owner == NONE) {
                return count;
            }
            return kinds[owner] == WHILE ? owner : behind[owner];
        }

        int assigned(int s, int values) {
            return sumOf(lefts[s], values);
        }

        boolean holds(int s, int values) {
            int left = sumOf(lefts[s], values);
            int right = sumOf(rights[s], values);
            if (relations[s] == '=') {
                return left == right;
            }
            return relations[s] == '<' ? left < right : left != right;
        }

        private static int sumOf(int sum, int values) {
            int first = sum & 15;
            int second = sum >> 4 & 15;
            int sign = sum >> 8;
            if (first >= VALUES) {
                first = Digits.get(values, first - VALUES);
            }
            if (second >= VALUES) {
                second = Digits.get(values, second - VALUES);
            }
            if (sign == PLUS) {
                return (first + second) % VALUES;
            }
            return sign == MINUS ? (first + VALUES - second) % VALUES : first;
        }
    }

    /**
     * The TAPE, and what reads it into a Program of its own, the draft: so a FAULT leaves the other one as it is. Behind
     * a FAULT nothing is read further, so the first one stays. Block 0 is the whole text.
     */
    private static final class Reader {
        private static final int NOTHING = 0;
        private static final int WORD = 1;
        private static final int NUMBER = 2;
        private static final int SIGN = 3;
        private static final int LARGE = 1000;

        int taped;
        private final int[] bytes = new int[MOST_BYTES];
        private Program draft = new Program();
        private int length;
        private int token;
        private int from;
        private int to;
        private int number;
        private int fault;
        private int place = NONE;
        private int depth;
        private final int[] owners = new int[MOST_BLOCKS + 1];
        private final int[] latest = new int[MOST_BLOCKS + 1];
        private final boolean[] isElse = new boolean[MOST_BLOCKS + 1];

        void put(int four) {
            for (int shift = 24; shift >= 0 && taped < MOST_BYTES; shift -= 8) {
                bytes[taped] = four >> shift & 255;
                taped++;
            }
        }

        /** The FAULT, 0 without one; the TAPE is empty then. */
        int read(int n) {
            length = Math.min(n, taped);
            taped = 0;
            to = 0;
            fault = 0;
            place = NONE;
            depth = 0;
            owners[0] = NONE;
            latest[0] = NONE;
            draft.clear();
            goOn();
            for (int round = 0; round <= length && fault == 0 && (depth > 0 || token != NOTHING); round++) {
                if (depth > 0 && isSign('}')) {
                    closeBlock();
                } else {
                    readStatement();
                }
            }
            if (fault == 0) {
                draft.link();
            }
            return fault;
        }

        int faultPlace() {
            return place;
        }

        Program exchange(Program old) {
            Program read = draft;
            draft = old;
            return read;
        }

        private void fail(int kind) {
            if (fault == 0) {
                fault = kind;
                place = from;
            }
        }

        /** To the next word, number or sign; not beyond a FAULT. */
        private void goOn() {
            if (fault != 0) {
                return;
            }
            from = to;
            while (from < length && bytes[from] == ' ') {
                from++;
            }
            to = from;
            number = 0;
            token = NOTHING;
            while (to < length && bytes[to] >= 'a' && bytes[to] <= 'z') {
                token = WORD;
                to++;
            }
            while (token != WORD && to < length && bytes[to] >= '0' && bytes[to] <= '9') {
                token = NUMBER;
                number = number < LARGE ? 10 * number + bytes[to] - '0' : LARGE;
                to++;
            }
            if (token == NOTHING && to < length) {
                token = SIGN;
                to++;
            }
        }

        private boolean isSign(int sign) {
            return token == SIGN && bytes[from] == sign;
        }

        private boolean isWord(String word) {
            if (token != WORD || to - from != word.length()) {
                return false;
            }
            for (int k = 0; k < word.length(); k++) {
                if (bytes[from + k] != word.charAt(k)) {
                    return false;
                }
            }
            return true;
        }

        private int variableHere() {
            return token == WORD && to - from == 1 && bytes[from] <= 'f' ? bytes[from] - 'a' : NONE;
        }

        private int kindHere() {
            if (variableHere() != NONE) {
                return ASSIGN;
            }
            if (isWord("draw")) {
                return DRAW;
            }
            if (isWord("flip")) {
                return FLIP;
            }
            if (isWord("if")) {
                return IF;
            }
            if (isWord("while")) {
                return WHILE;
            }
            if (isWord("observe")) {
                return OBSERVE;
            }
            return isWord("stop") ? STOP : NONE;
        }

        /** Of one with a BLOCK up to its opening sign. */
        private void readStatement() {
            int kind = kindHere();
            if (kind == NONE) {
                fail(1);
                return;
            }
            if (draft.isFull()) {
                fail(3);
                return;
            }
            int s = draft.begin(kind, owners[depth], latest[depth], isElse[depth]);
            latest[depth] = s;
            if (kind == ASSIGN) {
                draft.variables[s] = readVariable();
                readSign('=');
                draft.lefts[s] = readSum();
            } else {
                goOn();
                readBehindWord(s, kind);
            }
            if (kind == FLIP || kind == IF || kind == WHILE) {
                openBlock(s, false);
            } else {
                readSign(';');
            }
        }

        private void readBehindWord(int s, int kind) {
            if (kind == DRAW) {
                draft.variables[s] = readVariable();
                draft.numbers[s] = readNumber(kind);
            } else if (kind == FLIP) {
                draft.numbers[s] = readNumber(kind);
            } else if (kind != STOP) {
                draft.lefts[s] = readSum();
                draft.relations[s] = readRelation();
                draft.rights[s] = readSum();
            }
        }

        private void openBlock(int owner, boolean other) {
            if (isSign('{') && depth >= MOST_BLOCKS) {
                fail(3);
            }
            readSign('{');
            if (fault == 0) {
                depth++;
                owners[depth] = owner;
                latest[depth] = NONE;
                isElse[depth] = other;
            }
        }

        private void closeBlock() {
            int owner = owners[depth];
            boolean mayGoOn = !isElse[depth] && draft.kinds[owner] != WHILE;
            depth--;
            goOn();
            if (mayGoOn && isWord("else")) {
                goOn();
                openBlock(owner, true);
            }
        }

        private int readRelation() {
            if (!isSign('=') && !isSign('<') && !isSign('#')) {
                fail(1);
                return 0;
            }
            int relation = bytes[from];
            goOn();
            return relation;
        }

        private int readSum() {
            int first = readTerm();
            if (!isSign('+') && !isSign('-')) {
                return first;
            }
            int sign = isSign('+') ? Program.PLUS : Program.MINUS;
            goOn();
            return Program.sum(first, sign, readTerm());
        }

        private int readTerm() {
            return token == NUMBER ? readNumber(ASSIGN) : VALUES + readVariable();
        }

        private int readVariable() {
            int v = variableHere();
            if (v == NONE) {
                fail(1);
                return 0;
            }
            goOn();
            return v;
        }

        private int readNumber(int kind) {
            int read = number;
            if (token != NUMBER) {
                fail(1);
                return 0;
            }
            boolean isSuch = read < VALUES;
            if (kind == FLIP) {
                isSuch = read <= WHOLE;
            } else if (kind == DRAW) {
                isSuch = read >= 2 && read <= 6 || read == 10;
            }
            if (!isSuch) {
                fail(2);
                return 0;
            }
            goOn();
            return read;
        }

        private void readSign(int sign) {
            if (isSign(sign)) {
                goOn();
            } else {
                fail(1);
            }
        }
    }

    /** The STATES as they come, and their ARCS: those of STATE i stand from arcsFrom[i] to ahead of arcsFrom[i + 1]. */
    private static final class Graph {
        private static final int SLOTS = 512;

        /** One more with each exploring: what was found out for another version is of no use any more. */
        int version;
        private boolean fresh;
        int count;
        int arcs;
        int ends;
        int trappedOnes;
        boolean tooMany;
        int endPlace;
        final int[] places = new int[MOST_STATES];
        final int[] values = new int[MOST_STATES];
        final int[] levels = new int[MOST_STATES];
        final boolean[] trapped = new boolean[MOST_STATES];
        final int[] arcsFrom = new int[MOST_STATES + 1];
        final int[] targets = new int[MOST_ARCS];
        final int[] shares = new int[MOST_ARCS];
        private final int[] slots = new int[SLOTS];

        void forget() {
            fresh = false;
        }

        void explore(Program program, int firstValues) {
            if (fresh) {
                return;
            }
            fresh = true;
            version++;
            count = 0;
            arcs = 0;
            tooMany = false;
            endPlace = program.count;
            Arrays.fill(slots, 0);
            stateAt(0, firstValues, 0);
            for (int i = 0; i < count && i < MOST_STATES && !tooMany; i++) {
                arcsFrom[i] = arcs;
                leave(program, i);
                arcsFrom[i + 1] = arcs;
            }
            ends = 0;
            for (int i = 0; i < count; i++) {
                ends += isEnd(i) ? 1 : 0;
            }
            if (!tooMany) {
                findTrapped();
            }
        }

        boolean isEnd(int i) {
            return places[i] == endPlace;
        }

        boolean isBroken(int i) {
            return places[i] > endPlace;
        }

        int arcsOf(int i) {
            return arcsFrom[i + 1] - arcsFrom[i];
        }

        /** STATES come level by level, so the last one has the greatest. */
        int greatestLevel() {
            return count > 0 ? levels[count - 1] : 0;
        }

        private void leave(Program program, int i) {
            int s = places[i];
            if (s >= program.count) {
                return;
            }
            int held = values[i];
            int number = program.numbers[s];
            switch (program.kinds[s]) {
                case ASSIGN:
                    lead(i, program.near[s], Digits.put(held, program.variables[s], program.assigned(s, held)), WHOLE);
                    break;
                case DRAW:
                    for (int x = 0; x < number; x++) {
                        lead(i, program.near[s], Digits.put(held, program.variables[s], x), WHOLE / number);
                    }
                    break;
                case FLIP:
                    lead(i, program.near[s], held, number);
                    lead(i, program.far[s], held, WHOLE - number);
                    break;
                case STOP:
                    lead(i, program.near[s], held, WHOLE);
                    break;
                default:
                    lead(i, program.holds(s, held) ? program.near[s] : program.far[s], held, WHOLE);
                    break;
            }
        }

        private void lead(int i, int place, int held, int share) {
            if (share == 0 || tooMany) {
                return;
            }
            int target = stateAt(place, place > endPlace ? 0 : held, levels[i] + 1);
            if (target == NONE || arcs >= MOST_ARCS) {
                tooMany = true;
                return;
            }
            targets[arcs] = target;
            shares[arcs] = share;
            arcs++;
        }

        /** The STATE there, a new one if there was none; NONE if that would be too many. */
        private int stateAt(int place, int held, int level) {
            int slot = (1000000 * place + held) * 0x9E3779B1 >>> 23;
            for (int tried = 0; tried < SLOTS && slots[slot] != 0; tried++) {
                int known = slots[slot] - 1;
                if (places[known] == place && values[known] == held) {
                    return known;
                }
                slot = (slot + 1) % SLOTS;
            }
            if (count >= MOST_STATES) {
                return NONE;
            }
            places[count] = place;
            values[count] = held;
            levels[count] = level;
            count++;
            slots[slot] = count;
            return count - 1;
        }

        private void findTrapped() {
            trappedOnes = 0;
            for (int i = 0; i < count; i++) {
                trapped[i] = places[i] < endPlace;
                trappedOnes += trapped[i] ? 1 : 0;
            }
            boolean found = true;
            for (int sweep = 0; sweep < MOST_STATES && found; sweep++) {
                found = false;
                for (int i = count - 1; i >= 0; i--) {
                    if (trapped[i] && leadsOut(i)) {
                        trapped[i] = false;
                        trappedOnes--;
                        found = true;
                    }
                }
            }
        }

        private boolean leadsOut(int i) {
            for (int k = arcsFrom[i]; k < arcsFrom[i + 1]; k++) {
                if (!trapped[targets[k]]) {
                    return true;
                }
            }
            return false;
        }
    }

    /** VISITS. Only STATES with ARCS that are not TRAPPED are unknowns: nothing leads on from the others. */
    private static final class Equations {
        int ended;
        int broken;
        int steps;
        final int[] visited = new int[MOST_STATES];
        private int version;
        private boolean solved;
        private int size;
        private final int[] unknowns = new int[MOST_STATES];
        private final int[] ranks = new int[MOST_STATES];
        private final int[] rows = new int[MOST_STATES];
        private final int[] columns = new int[MOST_STATES + 1];
        private final int[] couples = new int[VALUES * VALUES];
        private final int[] firsts = new int[VALUES];
        private final int[] seconds = new int[VALUES];
        /** Made with the object, though many never need it: what a call makes counts as often as there are calls. */
        private final int[] cells = new int[MOST_STATES * (MOST_STATES + 1)];

        /** Whether there is just one solution. */
        boolean solve(Graph graph) {
            if (version != graph.version) {
                version = graph.version;
                write(graph);
                solved = eliminate();
                if (solved) {
                    substitute();
                    passOn(graph);
                    addUp(graph);
                }
            }
            return solved;
        }

        boolean canDivide(Graph graph) {
            return solve(graph) && ended != 0;
        }

        int shareOfEnded(int part) {
            return Field.times(part, Field.inverse(ended));
        }

        int forEver() {
            return Field.less(Field.less(1, ended), broken);
        }

        private void write(Graph graph) {
            size = 0;
            for (int i = 0; i < graph.count; i++) {
                ranks[i] = NONE;
                if (!graph.trapped[i] && graph.arcsOf(i) > 0) {
                    ranks[i] = size;
                    unknowns[size] = i;
                    size++;
                }
            }
            Arrays.fill(cells, 0, size * (size + 1), 0);
            for (int r = 0; r < size; r++) {
                rows[r] = r * (size + 1);
                int diagonal = rows[r] + r;
                cells[diagonal] = Field.plus(cells[diagonal], 1);
                cells[rows[r] + size] = unknowns[r] == 0 ? 1 : 0;
            }
            for (int r = 0; r < size; r++) {
                writeArcs(graph, r);
            }
        }

        private void writeArcs(Graph graph, int r) {
            int i = unknowns[r];
            for (int k = graph.arcsFrom[i]; k < graph.arcsFrom[i + 1]; k++) {
                int rank = ranks[graph.targets[k]];
                if (rank != NONE) {
                    int cell = rows[rank] + r;
                    cells[cell] = Field.less(cells[cell], Field.sixtieth(graph.shares[k]));
                }
            }
        }

        private boolean eliminate() {
            for (int c = 0; c < size; c++) {
                int r = c;
                while (r < size && cells[rows[r] + c] == 0) {
                    r++;
                }
                if (r == size) {
                    return false;
                }
                int row = rows[r];
                rows[r] = rows[c];
                rows[c] = row;
                int used = normalise(row, c);
                for (int below = c + 1; below < size; below++) {
                    takeAway(row, rows[below], c, used);
                }
            }
            return true;
        }

        /** Most cells stay 0: those of the row that are not are kept, so that only they are gone through below. */
        private int normalise(int row, int c) {
            int factor = cells[row + c] == 1 ? 1 : Field.inverse(cells[row + c]);
            int used = 0;
            for (int k = c; k <= size; k++) {
                if (cells[row + k] != 0) {
                    cells[row + k] = Field.times(cells[row + k], factor);
                    columns[used] = k;
                    used++;
                }
            }
            return used;
        }

        private void takeAway(int row, int below, int c, int used) {
            int factor = cells[below + c];
            if (factor == 0) {
                return;
            }
            for (int u = 0; u < used; u++) {
                int k = columns[u];
                cells[below + k] = Field.less(cells[below + k], Field.times(factor, cells[row + k]));
            }
        }

        private void substitute() {
            for (int c = size - 1; c >= 0; c--) {
                int number = cells[rows[c] + size];
                for (int k = c + 1; k < size; k++) {
                    int cell = cells[rows[c] + k];
                    if (cell != 0) {
                        number = Field.less(number, Field.times(cell, visited[unknowns[k]]));
                    }
                }
                visited[unknowns[c]] = number;
            }
        }

        private void passOn(Graph graph) {
            for (int i = 0; i < graph.count; i++) {
                if (ranks[i] == NONE) {
                    visited[i] = i == 0 && !graph.trapped[0] ? 1 : 0;
                }
            }
            for (int r = 0; r < size; r++) {
                int i = unknowns[r];
                int sixtieth = Field.sixtieth(visited[i]);
                for (int k = graph.arcsFrom[i]; k < graph.arcsFrom[i + 1]; k++) {
                    int target = graph.targets[k];
                    if (!graph.trapped[target] && ranks[target] == NONE) {
                        visited[target] = Field.plus(visited[target], Field.times(sixtieth, graph.shares[k]));
                    }
                }
            }
        }

        private void addUp(Graph graph) {
            ended = 0;
            broken = 0;
            steps = 0;
            for (int i = 0; i < graph.count; i++) {
                if (graph.isEnd(i)) {
                    ended = Field.plus(ended, visited[i]);
                } else if (graph.isBroken(i)) {
                    broken = Field.plus(broken, visited[i]);
                } else {
                    steps = Field.plus(steps, visited[i]);
                }
            }
        }

        int coupleTogether(Graph graph, int v, int x, int w, int y) {
            int sum = 0;
            for (int i = 0; i < graph.count; i++) {
                if (graph.isEnd(i) && Digits.get(graph.values[i], v) == x && Digits.get(graph.values[i], w) == y) {
                    sum = Field.plus(sum, visited[i]);
                }
            }
            return sum;
        }

        int valuesTogether(Graph graph, int v) {
            int sum = 0;
            for (int i = 0; i < graph.count; i++) {
                if (graph.isEnd(i)) {
                    sum = Field.plus(sum, Field.times(Digits.get(graph.values[i], v), visited[i]));
                }
            }
            return sum;
        }

        /** ODDS of both are the product just if their VISITS times ENDED are: no division is needed. */
        boolean areIndependent(Graph graph, int v, int w) {
            Arrays.fill(couples, 0);
            Arrays.fill(firsts, 0);
            Arrays.fill(seconds, 0);
            for (int i = 0; i < graph.count; i++) {
                if (graph.isEnd(i)) {
                    int x = Digits.get(graph.values[i], v);
                    int y = Digits.get(graph.values[i], w);
                    couples[VALUES * x + y] = Field.plus(couples[VALUES * x + y], visited[i]);
                    firsts[x] = Field.plus(firsts[x], visited[i]);
                    seconds[y] = Field.plus(seconds[y], visited[i]);
                }
            }
            for (int k = 0; k < VALUES * VALUES; k++) {
                if (Field.times(couples[k], ended) != Field.times(firsts[k / VALUES], seconds[k % VALUES])) {
                    return false;
                }
            }
            return true;
        }
    }

    /** WITHIN: where one is behind each number of ARCS, carried on only as far as was asked for. */
    private static final class Spread {
        static final int MOST_STEPS = 200;

        private int version;
        private int done;
        private int[] here = new int[MOST_STATES];
        private int[] there = new int[MOST_STATES];
        private final int[] sums = new int[MOST_STEPS + 1];

        int endedBy(Graph graph, int n) {
            if (version != graph.version) {
                version = graph.version;
                Arrays.fill(here, 0);
                here[0] = 1;
                sums[0] = atEnd(graph);
                done = 0;
            }
            for (int step = done + 1; step <= n && step <= MOST_STEPS; step++) {
                moveOn(graph);
                sums[step] = Field.plus(sums[step - 1], atEnd(graph));
                done = step;
            }
            return n >= 0 && n <= done ? sums[n] : 0;
        }

        private int atEnd(Graph graph) {
            int sum = 0;
            for (int i = 0; i < graph.count; i++) {
                if (graph.isEnd(i)) {
                    sum = Field.plus(sum, here[i]);
                }
            }
            return sum;
        }

        private void moveOn(Graph graph) {
            Arrays.fill(there, 0);
            for (int i = 0; i < graph.count; i++) {
                if (here[i] != 0) {
                    int sixtieth = Field.sixtieth(here[i]);
                    for (int k = graph.arcsFrom[i]; k < graph.arcsFrom[i + 1]; k++) {
                        int target = graph.targets[k];
                        there[target] = Field.plus(there[target], Field.times(sixtieth, graph.shares[k]));
                    }
                }
            }
            int[] left = here;
            here = there;
            there = left;
        }
    }

    /** CLASSES by each VARIABLE: begun with too few, and split as long as one holds STATES that differ. */
    private static final class Lumps {
        private static final int BROKEN_KIND = 10;
        private static final int GOING_KIND = 11;
        private static final int KINDS = 12;

        private final int[] versions = new int[VARIABLES];
        private final int[] counts = new int[VARIABLES];
        private final int[] labels = new int[VARIABLES * MOST_STATES];
        private final int[] now = new int[MOST_STATES];
        private final int[] finer = new int[MOST_STATES];
        private final int[] heads = new int[MOST_STATES];
        private final int[] others = new int[MOST_STATES];
        private final int[] leaders = new int[MOST_STATES];
        private final int[] flows = new int[MOST_STATES];

        int countBy(int v) {
            return counts[v];
        }

        int labelBy(int v, int i) {
            return labels[v * MOST_STATES + i];
        }

        void find(Graph graph, int v) {
            if (versions[v] == graph.version) {
                return;
            }
            versions[v] = graph.version;
            int known = labelKinds(graph, v);
            for (int round = 0; round < MOST_STATES; round++) {
                int found = split(graph, known);
                if (found == known) {
                    break;
                }
                known = found;
            }
            counts[v] = known;
            System.arraycopy(now, 0, labels, v * MOST_STATES, graph.count);
        }

        private int labelKinds(Graph graph, int v) {
            Arrays.fill(heads, 0, KINDS, NONE);
            int known = 0;
            for (int i = 0; i < graph.count; i++) {
                int kind = GOING_KIND;
                if (graph.isEnd(i)) {
                    kind = Digits.get(graph.values[i], v);
                } else if (graph.isBroken(i)) {
                    kind = BROKEN_KIND;
                }
                if (heads[kind] == NONE) {
                    heads[kind] = known;
                    known++;
                }
                now[i] = heads[kind];
            }
            return known;
        }

        /** Numbers come with the least STATE of each CLASS, as the document numbers them. */
        private int split(Graph graph, int known) {
            Arrays.fill(heads, 0, known, NONE);
            int found = 0;
            for (int i = 0; i < graph.count; i++) {
                int label = heads[now[i]];
                for (int tried = 0; tried < found && label != NONE; tried++) {
                    if (flowAlike(graph, i, leaders[label])) {
                        break;
                    }
                    label = others[label];
                }
                if (label == NONE) {
                    label = found;
                    found++;
                    leaders[label] = i;
                    others[label] = heads[now[i]];
                    heads[now[i]] = label;
                }
                finer[i] = label;
            }
            System.arraycopy(finer, 0, now, 0, graph.count);
            return found;
        }

        private boolean flowAlike(Graph graph, int i, int j) {
            addFlow(graph, i, 1);
            addFlow(graph, j, -1);
            boolean alike = true;
            for (int k = graph.arcsFrom[i]; k < graph.arcsFrom[i + 1]; k++) {
                alike = alike && flows[now[graph.targets[k]]] == 0;
                flows[now[graph.targets[k]]] = 0;
            }
            for (int k = graph.arcsFrom[j]; k < graph.arcsFrom[j + 1]; k++) {
                alike = alike && flows[now[graph.targets[k]]] == 0;
                flows[now[graph.targets[k]]] = 0;
            }
            return alike;
        }

        private void addFlow(Graph graph, int i, int times) {
            for (int k = graph.arcsFrom[i]; k < graph.arcsFrom[i + 1]; k++) {
                flows[now[graph.targets[k]]] += times * graph.shares[k];
            }
        }
    }

    /**
     * The LIKELIEST RUN. For each STATE and each number of DRAWS left: the most WORTH of what is still to come (60 for
     * each DRAW not used), and the fewest DRAWS that reach it. What came ahead changes neither choice.
     */
    private static final class Likeliest {
        private int version;
        long most;
        int count;
        final int[] draws = new int[MOST_DRAWS];
        private final int[] stops = new int[MOST_STATES];
        private final long[] worths = new long[(MOST_DRAWS + 1) * MOST_STATES];
        private final int[] fewest = new int[(MOST_DRAWS + 1) * MOST_STATES];

        boolean exists() {
            return most > 0;
        }

        void find(Graph graph, Program program) {
            if (version == graph.version) {
                return;
            }
            version = graph.version;
            most = 0;
            count = 0;
            for (int i = 0; i < graph.count; i++) {
                stops[i] = stopFrom(graph, program, i);
            }
            long unused = 1;
            for (int left = 0; left <= MOST_DRAWS; left++) {
                for (int i = 0; i < graph.count; i++) {
                    weigh(graph, i, left, unused);
                }
                unused *= WHOLE;
            }
            if (stops[0] != NONE) {
                most = worths[MOST_DRAWS * MOST_STATES + stops[0]];
            }
            if (most > 0) {
                trace(graph, program);
            }
        }

        /** Where one next draws, or ends; NONE if neither ever comes. */
        private static int stopFrom(Graph graph, Program program, int i) {
            int at = i;
            for (int step = 0; step <= MOST_STATES; step++) {
                if (graph.isEnd(at) || isDrawn(graph, program, at)) {
                    return at;
                }
                if (graph.arcsOf(at) == 0) {
                    return NONE;
                }
                at = graph.targets[graph.arcsFrom[at]];
            }
            return NONE;
        }

        private static boolean isDrawn(Graph graph, Program program, int i) {
            int s = graph.places[i];
            return s < program.count && (program.kinds[s] == DRAW || program.kinds[s] == FLIP);
        }

        private void weigh(Graph graph, int i, int left, long unused) {
            int cell = left * MOST_STATES + i;
            worths[cell] = graph.isEnd(i) ? unused : 0;
            fewest[cell] = 0;
            if (stops[i] != i || left == 0) {
                return;
            }
            for (int k = graph.arcsFrom[i]; k < graph.arcsFrom[i + 1]; k++) {
                int stop = stops[graph.targets[k]];
                if (stop != NONE) {
                    int behind = cell - MOST_STATES - i + stop;
                    long worth = graph.shares[k] * worths[behind];
                    int needed = fewest[behind] + 1;
                    if (worth > worths[cell] || worth > 0 && worth == worths[cell] && needed < fewest[cell]) {
                        worths[cell] = worth;
                        fewest[cell] = needed;
                    }
                }
            }
        }

        private void trace(Graph graph, Program program) {
            int at = stops[0];
            for (int left = MOST_DRAWS; left > 0 && !graph.isEnd(at); left--) {
                int cell = left * MOST_STATES + at;
                int chosen = NONE;
                for (int k = graph.arcsFrom[at]; k < graph.arcsFrom[at + 1] && chosen == NONE; k++) {
                    int stop = stops[graph.targets[k]];
                    int behind = cell - MOST_STATES - at + stop;
                    if (stop != NONE && graph.shares[k] * worths[behind] == worths[cell]
                            && fewest[behind] + 1 == fewest[cell]) {
                        chosen = k;
                    }
                }
                if (chosen == NONE) {
                    return;
                }
                draws[count] = drawn(graph, program, at, chosen - graph.arcsFrom[at]);
                count++;
                at = stops[graph.targets[chosen]];
            }
        }

        private static int drawn(Graph graph, Program program, int i, int k) {
            int s = graph.places[i];
            if (program.kinds[s] == DRAW) {
                return k;
            }
            return k == 0 && program.numbers[s] > 0 ? 1 : 0;
        }
    }
}
