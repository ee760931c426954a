/** Promises 12 to 18: the FEED and RUNS. */
public final class RunsTest {
    private static final Checks c = new Checks("RunsTest");

    public static void main(String[] args) {
        feed();
        reckoning();
        divisions();
        reads();
        ways();
        fuel();
        manyOuts();
        latestRun();
        c.finish();
    }

    private static int[] a(int... numbers) {
        return numbers;
    }

    private static void feed() {
        PassCourt x = new PassCourt();
        for (int i = 1; i <= 16; i++) {
            c.due("feed", x.feed(i * 100L), i);
        }
        c.due("feed 17", x.feed(1), -2);
        c.due("count", x.count(2), 16);
        c.due("dry", x.dry(), 16);
        c.due("dry again", x.dry(), 0);
        c.due("feed anew", x.feed(Long.MIN_VALUE), 1);
        int r = c.make(x, a(Checks.READ, 1, 0), a(Checks.OUT, 1));
        c.due("run", x.run(r, 9), 0);
        c.due("out", x.out(0), Long.MIN_VALUE);
        c.due("the FEED stays", x.count(2), 1);
    }

    /** What a KIND makes of two numbers of the FEED. */
    private static void reckon(int kind, long y, long z, long want) {
        PassCourt x = new PassCourt();
        x.feed(y);
        x.feed(z);
        int r = c.make(x, a(Checks.READ, 2, 7), a(Checks.SET, 1, 1), a(Checks.READ, 3, 1), a(kind, 4, 2, 3), a(Checks.OUT, 4));
        c.due("run of " + kind, x.run(r, 100), 0);
        c.due(kind + " of " + y + " and " + z, x.out(0), want);
        c.due("register 4", x.register(4), want);
        c.due("register 2", x.register(2), y);
    }

    private static void reckoning() {
        reckon(Checks.ADD, Long.MAX_VALUE, 1, Long.MIN_VALUE);
        reckon(Checks.SUB, Long.MIN_VALUE, 1, Long.MAX_VALUE);
        reckon(Checks.SUB, 3, 10, -7);
        reckon(Checks.MUL, 1L << 62, 4, 0);
        reckon(Checks.MUL, -3, 7, -21);
        reckon(Checks.DIV, -7, 2, -3);
        reckon(Checks.DIV, 7, -2, -3);
        reckon(Checks.DIV, Long.MIN_VALUE, -1, Long.MIN_VALUE);
        reckon(Checks.REM, -7, 2, -1);
        reckon(Checks.REM, 7, -2, 1);
        reckon(Checks.REM, Long.MIN_VALUE, -1, 0);
        reckon(Checks.LESS, -1, 0, 1);
        reckon(Checks.LESS, 0, 0, 0);
        reckon(Checks.LESS, Long.MAX_VALUE, Long.MIN_VALUE, 0);
        reckon(Checks.ALIKE, 5, 5, 1);
        reckon(Checks.ALIKE, 5, 6, 0);
        reckon(Checks.ALIKE, 1L << 32, 0, 0);
    }

    private static void divisions() {
        for (int kind = Checks.DIV; kind <= Checks.REM; kind++) {
            PassCourt x = new PassCourt();
            int r = c.make(x, a(Checks.SET, 1, 9), a(Checks.OUT, 1), a(kind, 1, 1, 2), a(Checks.OUT, 1));
            c.due("by 0", x.run(r, 100), 1);
            c.due("an act that STOPS counts", x.ran(0), 3);
            c.due("where it STOPPED", x.ran(1), 2);
            c.due("x stays", x.register(1), 9);
            c.due("outs", x.outs(), 1);
            c.due("fuel just enough to STOP", x.run(r, 3), 1);
            c.due("fuel one less", x.run(r, 2), 3);
        }
    }

    private static void reads() {
        PassCourt x = new PassCourt();
        int r = c.make(x, a(Checks.SET, 1, 1), a(Checks.READ, 2, 1), a(Checks.OUT, 2));
        x.feed(5);
        c.due("beyond the FEED", x.run(r, 9), 2);
        c.due("place", x.ran(1), 1);
        c.due("acts", x.ran(0), 2);
        x.feed(6);
        c.due("run", x.run(r, 9), 0);
        c.due("out", x.out(0), 6);
        int below = c.make(x, a(Checks.SET, 1, -1), a(Checks.READ, 2, 1));
        c.due("below 0", x.run(below, 9), 2);
        int far = c.make(x, a(Checks.SET, 1, 65536), a(Checks.MUL, 1, 1, 1), a(Checks.READ, 2, 1));
        c.due("2 to the 32nd", x.run(far, 9), 2);
    }

    private static void ways() {
        PassCourt x = new PassCourt();
        int r = c.make(x, a(Checks.SET, 1, 3), a(Checks.SET, 2, 1), a(Checks.OUT, 1), a(Checks.SUB, 1, 1, 2),
                a(Checks.IF, 1, 2), a(Checks.MOVE, 3, 2), a(Checks.JUMP, 0, 8), a(Checks.OUT, 7), a(Checks.PASS),
                a(Checks.HALT), a(Checks.OUT, 7));
        c.due("run", x.run(r, 1000), 0);
        c.due("outs", x.outs(), 3);
        c.due("out 0", x.out(0), 3);
        c.due("out 2", x.out(2), 1);
        c.due("no out", x.out(3), 0);
        c.due("out -1", x.out(-1), 0);
        c.due("acts", x.ran(0), 2 + 9 + 4);
        c.due("HALT goes to the END", x.ran(1), 11);
        c.due("MOVE", x.register(3), 1);
        int beyond = c.make(x, a(Checks.SET, 0, 1), a(Checks.IF, 0, 50), a(Checks.OUT, 0));
        c.due("beyond the END", x.run(beyond, 9), 0);
        c.due("is the END", x.ran(1), 3);
        c.due("acts", x.ran(0), 2);
        x.act(beyond, Checks.OUT, 0, 0, 0);
        c.due("a later END", x.run(beyond, 9), 0);
        c.due("a later END", x.ran(1), 4);
    }

    private static void fuel() {
        PassCourt x = new PassCourt();
        int empty = x.routine();
        c.due("empty, no fuel", x.run(empty, 0), 0);
        int loop = c.make(x, a(Checks.ADD, 1, 1, 2), a(Checks.JUMP, 0, 0));
        c.due("loop", x.run(loop, 100000), 3);
        c.due("acts", x.ran(0), 100000);
        c.due("too much", x.run(loop, 100001), -2);
        c.due("below 0", x.run(loop, -1), -2);
        c.due("no routine", x.run(2, 1), -2);
        c.due("routine -1", x.run(-1, 1), -2);
        c.due("a refused RUN changes nothing", x.ran(0), 100000);
        c.due("no fuel", x.run(loop, 0), 3);
        c.due("no acts", x.ran(0), 0);
        c.due("odd", x.run(loop, 5), 3);
        c.due("place", x.ran(1), 1);
        int one = c.make(x, a(Checks.HALT));
        c.due("just enough", x.run(one, 1), 0);
        c.due("place", x.ran(1), 1);
        c.due("another what", x.ran(2), -2);
        c.due("another what", x.ran(-1), -2);
        c.due("another what before the first RUN", new PassCourt().ran(2), -2);
    }

    private static void manyOuts() {
        PassCourt x = new PassCourt();
        int r = c.make(x, a(Checks.SET, 2, 1), a(Checks.ADD, 1, 1, 2), a(Checks.OUT, 1), a(Checks.JUMP, 0, 1));
        x.run(r, 1 + 3 * 250);
        c.due("outs", x.outs(), 250);
        c.due("the 200th", x.out(199), 200);
        c.due("the 201st is not told", x.out(200), 0);
        c.due("far", x.out(Integer.MAX_VALUE), 0);
    }

    private static void latestRun() {
        PassCourt x = new PassCourt();
        int r = c.make(x, a(Checks.SET, 1, 8), a(Checks.SET, 0, 6), a(Checks.SET, 7, 5), a(Checks.OUT, 1));
        int empty = x.routine();
        x.run(r, 9);
        c.due("register 0", x.register(0), 6);
        c.due("register 7", x.register(7), 5);
        c.due("register", x.register(1), 8);
        c.due("no register 8", x.register(8), 0);
        c.due("no register -1", x.register(-1), 0);
        x.run(empty, 9);
        for (int i = 0; i < 8; i++) {
            c.due("registers begin as 0", x.register(i), 0);
        }
        c.due("outs", x.outs(), 0);
        c.due("out", x.out(0), 0);
        c.due("acts", x.ran(0), 0);
    }
}
