/** What the tests of the document's edges share: names of KINDS, and short ways to make routines and WITNESSES. */
abstract class Edges {
    static final int PASS = Checks.PASS, SET = Checks.SET, MOVE = Checks.MOVE, ADD = Checks.ADD, SUB = Checks.SUB,
            MUL = Checks.MUL, DIV = Checks.DIV, REM = Checks.REM, LESS = Checks.LESS, ALIKE = Checks.ALIKE,
            READ = Checks.READ, OUT = Checks.OUT, JUMP = Checks.JUMP, IF = Checks.IF, HALT = Checks.HALT;
    static final int FOLD = Checks.FOLD, DROP = Checks.DROP, THREAD = Checks.THREAD, PACK = Checks.PACK;
    static final int LEAST = Integer.MIN_VALUE, MOST = Integer.MAX_VALUE;
    static final int NO_ACT = -2000000000;

    static Checks c;
    static PassCourt x;

    static void begin(String title) {
        c = new Checks(title);
        x = new PassCourt();
    }

    static int[] a(int... numbers) {
        return numbers;
    }

    static int[][] acts(int[]... acts) {
        return acts;
    }

    /** As many acts of one sort. */
    static int[][] times(int count, int... act) {
        int[][] row = new int[count][];
        java.util.Arrays.fill(row, act);
        return row;
    }

    static int[][] join(int[][] first, int[]... second) {
        int[][] row = java.util.Arrays.copyOf(first, first.length + second.length);
        System.arraycopy(second, 0, row, first.length, second.length);
        return row;
    }

    static int make(int[]... acts) {
        return c.make(x, acts);
    }

    /** A new object whose routine 0 is of these acts. */
    static void only(int[]... acts) {
        x = new PassCourt();
        make(acts);
    }

    /** A new object whose routines 0 and 1 are of these acts. */
    static void court(int[][] first, int[][] second) {
        x = new PassCourt();
        make(first);
        make(second);
    }

    /** A PAIR more, with claims told as {register, claim} or {register, 2, number}. */
    static void pair(int first, int second, int mode, int measure, int[]... claims) {
        int pair = x.pair(first, second, mode, measure);
        for (int[] k : claims) {
            c.due("claim ahead", x.claim(pair, k[0], k[1], k.length > 2 ? k[2] : 0), 0);
        }
    }

    static int[] same(int register) {
        return a(register, 1);
    }

    static int[] is(int register, int number) {
        return a(register, 2, number);
    }

    static void judged(String what, int fault, int where) {
        c.due(what + ": judge", x.judge(0, 1), fault);
        c.due(what + ": where", x.where(), where);
    }

    static void taken(String what) {
        judged(what, 0, -1);
    }
}
