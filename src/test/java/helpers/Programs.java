/** Texts of programs that stand at a bound of the document, or just beyond it. */
final class Programs {
    /** What is behind an observation that never holds. */
    static final String BREAK = "observe 0=1;";
    static final String PAIR = "draw a 2;draw b 2;observe a#b;c=a+b;";
    static final String TOO_MANY = "draw a 10;draw b 10;draw c 2;";
    /** Its while is come to once more by odds that are 1 modulo P, though they are less. */
    static final String SINGULAR = "while 0=0{flip 59{}else{stop;}"
            + "flip 29{flip 49{flip 16{flip 41{flip 53{}else{stop;}}else{stop;}}else{stop;}}}}";
    /** The same, but what does not come back at once may come back later: the pivot in turn is 0, another one is not. */
    static final String SWAPPED = "while 0=0{flip 59{}else{stop;}flip 29{flip 49{"
            + "flip 16{flip 41{flip 53{}else{stop;}}else{d=0;d=0;d=0;d=0;flip 30{stop;}}}"
            + "else{d=0;d=0;d=0;d=0;d=0;flip 30{stop;}}}}}";
    /** It ends by odds that are 0 modulo P. */
    static final String NO_ENDED = "flip 11{flip 13{flip 1{flip 10{flip 2{flip 2{a=1;}else{observe 0=1;}}"
            + "else{stop;}}else{observe 0=1;}}else{stop;}}else{observe 0=1;}}else{stop;}";

    private static final String COUNTING = "while b<8{while a<9{a=a+1;}a=0;b=b+1;}";

    private Programs() {
    }

    /** A program that comes to n states, from 50 on, many of them by one level. */
    static String states(int n) {
        // 1 + 6 + 36 of the draws, 6 + 1 where the values are lost again
        int rest = n - 43 - 7;
        StringBuilder text = new StringBuilder("draw a 6;draw b 6;");
        for (; rest >= 36; rest -= 36) {
            text.append("c=0;");
        }
        text.append("a=0;b=0;");
        text.append("c=0;".repeat(rest));
        return text.toString();
    }

    /**
     * A program without draws whose n states, from 179 on, stand one behind the other, the last one at the END; 22 of
     * them for each b.
     */
    static String chain(int n) {
        return COUNTING + "c=0;".repeat(n - 178);
    }

    /** The same, but the last one is BROKEN. */
    static String brokenChain(int n) {
        return COUNTING + "c=0;".repeat(n - 179) + BREAK;
    }

    /** A ring of n states, from 180 on: the last one leads to START again, none to the END. */
    static String ring(int n) {
        return "while 0=0{" + COUNTING + "c=0;".repeat(n - 179) + "b=0;}";
    }
}
