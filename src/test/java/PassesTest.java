/** Promises 6 and 7: what each PASS makes, the WITNESS that it brings, and best(). */
public final class PassesTest {
    private static final Checks c = new Checks("PassesTest");
    private static final int[] ALL_SAME = {1, 1, 1, 1, 1, 1, 1, 1};

    public static void main(String[] args) {
        fold();
        foldWitness();
        foldStops();
        drop();
        dropWitness();
        thread();
        threadAll();
        threadEndless();
        pack();
        emptyRoutine();
        refusals();
        best();
        bestAgain();
        c.finish();
    }

    private static int[] a(int... numbers) {
        return numbers;
    }

    private static void fold() {
        PassCourt x = new PassCourt();
        int r = c.make(x, a(Checks.SET, 1, 6), a(Checks.MOVE, 2, 1), a(Checks.MUL, 3, 1, 2), a(Checks.DIV, 4, 3, 1),
                a(Checks.READ, 5, 0), a(Checks.ADD, 6, 5, 1), a(Checks.IF, 7, 9), a(Checks.IF, 3, 50),
                a(Checks.ADD, 1, 1, 1), a(Checks.OUT, 5));
        c.due("FOLD", x.pass(r, Checks.FOLD), 1);
        c.acts("FOLD", x, 1, a(Checks.SET, 1, 6), a(Checks.SET, 2, 6), a(Checks.SET, 3, 36), a(Checks.SET, 4, 6),
                a(Checks.READ, 5, 0), a(Checks.ADD, 6, 5, 1), a(Checks.PASS), a(Checks.JUMP, 0, 50),
                a(Checks.ADD, 1, 1, 1), a(Checks.OUT, 5));
        c.due("judge", x.judge(0, 1), 0);
        int big = c.make(x, a(Checks.SET, 1, Integer.MAX_VALUE), a(Checks.SET, 2, 1), a(Checks.ADD, 3, 1, 2),
                a(Checks.MOVE, 4, 3), a(Checks.SUB, 5, 3, 2), a(Checks.SUB, 6, 7, 3));
        int folded = x.pass(big, Checks.FOLD);
        c.acts("only ints are SET", x, folded, a(Checks.SET, 1, Integer.MAX_VALUE), a(Checks.SET, 2, 1),
                a(Checks.ADD, 3, 1, 2), a(Checks.MOVE, 4, 3), a(Checks.SET, 5, Integer.MAX_VALUE),
                a(Checks.SET, 6, Integer.MIN_VALUE));
        c.due("judge", x.judge(big, folded), 0);
    }

    private static void foldWitness() {
        PassCourt x = new PassCourt();
        int r = c.make(x, a(Checks.SET, 1, 6), a(Checks.IF, 1, 3), a(Checks.OUT, 0), a(Checks.READ, 1, 0), a(Checks.JUMP, 0, 9));
        x.pass(r, Checks.FOLD);
        c.due("PAIRS of what is come to", x.count(1), 5);
        c.pair("0", x, 0, a(0, 0, 0, 0), 2, 2, 2, 2, 2, 2, 2, 2);
        c.pair("1", x, 1, a(1, 1, 0, 0), 2, 2, 2, 2, 2, 2, 2, 2);
        c.pair("3", x, 2, a(3, 3, 0, 0), 2, 2, 2, 2, 2, 2, 2, 2);
        c.pair("4", x, 3, a(4, 4, 0, 0), 2, 1, 2, 2, 2, 2, 2, 2);
        c.pair("END", x, 4, a(5, 5, 0, 0), 2, 1, 2, 2, 2, 2, 2, 2);
        c.due("number", x.number(0, 1), 0);
        c.due("number", x.number(2, 1), 6);
        c.due("number of claim 1", x.number(4, 1), 0);
        int first = c.make(x, a(Checks.MOVE, 1, 2), a(Checks.OUT, 1));
        c.acts("the first act", x, x.pass(first, Checks.FOLD), a(Checks.SET, 1, 0), a(Checks.OUT, 1));
        int endless = c.make(x, a(Checks.JUMP, 0, 0), a(Checks.OUT, 0));
        x.pass(endless, Checks.FOLD);
        c.due("the END is not come to", x.count(1), 1);
    }

    private static void foldStops() {
        PassCourt x = new PassCourt();
        int r = c.make(x, a(Checks.SET, 1, 6), a(Checks.DIV, 2, 1, 0), a(Checks.ADD, 3, 1, 1));
        int folded = x.pass(r, Checks.FOLD);
        c.due("a STOP stays", x.same(r, folded), 1);
        c.due("judge", x.judge(r, folded), 0);
        c.due("PAIRS", x.count(1), 2);
        int read = c.make(x, a(Checks.SET, 1, -6), a(Checks.READ, 2, 1), a(Checks.ADD, 3, 1, 1));
        int same = x.pass(read, Checks.FOLD);
        c.due("a READ below 0 stays", x.same(read, same), 1);
        c.due("judge", x.judge(read, same), 0);
        c.due("PAIRS", x.count(1), 2);
    }

    private static void drop() {
        PassCourt x = new PassCourt();
        int r = c.make(x, a(Checks.SET, 1, 5), a(Checks.SET, 1, 6), a(Checks.OUT, 1), a(Checks.MOVE, 2, 1),
                a(Checks.ADD, 2, 1, 1), a(Checks.SUB, 2, 1, 1), a(Checks.MUL, 2, 1, 1), a(Checks.DIV, 2, 1, 1),
                a(Checks.REM, 2, 1, 1), a(Checks.LESS, 2, 1, 1), a(Checks.ALIKE, 2, 1, 1), a(Checks.READ, 2, 3),
                a(Checks.SET, 4, 1));
        int dropped = x.pass(r, Checks.DROP);
        c.acts("DROP", x, dropped, a(0), a(Checks.SET, 1, 6), a(Checks.OUT, 1), a(0), a(0), a(0), a(0),
                a(Checks.DIV, 2, 1, 1), a(Checks.REM, 2, 1, 1), a(0), a(0), a(Checks.READ, 2, 3), a(0));
        c.due("judge", x.judge(r, dropped), 0);
    }

    private static void dropWitness() {
        PassCourt x = new PassCourt();
        int r = c.make(x, a(Checks.SET, 1, 5), a(Checks.ADD, 2, 1, 3), a(Checks.OUT, 2));
        x.pass(r, Checks.DROP);
        c.due("PAIRS", x.count(1), 4);
        c.pair("0", x, 0, a(0, 0, 0, 0), 0, 0, 0, 1, 0, 0, 0, 0);
        c.pair("1", x, 1, a(1, 1, 0, 0), 0, 1, 0, 1, 0, 0, 0, 0);
        c.pair("2", x, 2, a(2, 2, 0, 0), 0, 0, 1, 0, 0, 0, 0, 0);
        c.pair("END", x, 3, a(3, 3, 0, 0), 0, 0, 0, 0, 0, 0, 0, 0);
    }

    private static void thread() {
        PassCourt x = new PassCourt();
        int r = c.make(x, a(Checks.IF, 1, 2), a(Checks.JUMP, 0, 50), a(Checks.PASS), a(Checks.PASS), a(Checks.JUMP, 0, 6),
                a(Checks.HALT), a(Checks.JUMP, 0, 7), a(Checks.OUT, 1), a(Checks.JUMP, 0, 5), a(Checks.PASS));
        int threaded = x.pass(r, Checks.THREAD);
        c.acts("THREAD", x, threaded, a(Checks.IF, 1, 7), a(Checks.JUMP, 0, 10), a(0), a(0), a(Checks.JUMP, 0, 7),
                a(Checks.HALT), a(Checks.JUMP, 0, 7), a(Checks.OUT, 1), a(Checks.JUMP, 0, 5), a(0));
        c.due("judge", x.judge(r, threaded), 0);
        c.due("PAIRS", x.count(1), 11 + 7);
        for (int place = 0; place <= 10; place++) {
            c.pair("" + place, x, place, a(place, place, 0, 0), ALL_SAME);
        }
        c.pair("JUMP to the END", x, 11, a(1, 10, 1, 1), ALL_SAME);
        c.pair("2 leads to 7", x, 12, a(2, 7, 1, 4), ALL_SAME);
        c.pair("3 leads to 7", x, 13, a(3, 7, 1, 3), ALL_SAME);
        c.pair("4 leads to 7", x, 14, a(4, 7, 1, 2), ALL_SAME);
        c.pair("6 leads to 7", x, 15, a(6, 7, 1, 1), ALL_SAME);
        c.pair("8 leads to a HALT", x, 16, a(8, 5, 1, 1), ALL_SAME);
        c.pair("a last PASS", x, 17, a(9, 10, 1, 1), ALL_SAME);
    }

    /** PLACE 0 leads on too, and every act may lie on the way. */
    private static void threadAll() {
        PassCourt x = new PassCourt();
        int r = c.make(x, a(Checks.JUMP, 0, 2), a(Checks.JUMP, 0, 9), a(Checks.PASS), a(Checks.JUMP, 0, 1));
        int threaded = x.pass(r, Checks.THREAD);
        c.acts("all lead to the END", x, threaded, a(Checks.JUMP, 0, 4), a(Checks.JUMP, 0, 4), a(0), a(Checks.JUMP, 0, 4));
        c.due("PAIRS", x.count(1), 9);
        c.pair("0", x, 5, a(0, 4, 1, 4), ALL_SAME);
        c.pair("1", x, 6, a(1, 4, 1, 1), ALL_SAME);
        c.pair("2", x, 7, a(2, 4, 1, 3), ALL_SAME);
        c.pair("3", x, 8, a(3, 4, 1, 2), ALL_SAME);
        c.due("judge", x.judge(r, threaded), 0);
        int back = c.make(x, a(Checks.JUMP, 0, 2), a(Checks.IF, 1, 0), a(Checks.OUT, 1));
        c.acts("a y of 0", x, x.pass(back, Checks.THREAD), a(Checks.JUMP, 0, 2), a(Checks.IF, 1, 2), a(Checks.OUT, 1));
    }

    private static void threadEndless() {
        PassCourt x = new PassCourt();
        int r = c.make(x, a(Checks.IF, 1, 1), a(Checks.JUMP, 0, 3), a(Checks.OUT, 1), a(Checks.PASS), a(Checks.JUMP, 0, 3));
        int threaded = x.pass(r, Checks.THREAD);
        c.due("what leads on without end stays", x.same(r, threaded), 1);
        c.due("PAIRS", x.count(1), 6);
        c.due("judge", x.judge(r, threaded), 0);
        int self = c.make(x, a(Checks.JUMP, 0, 0));
        c.due("itself", x.same(self, x.pass(self, Checks.THREAD)), 1);
        c.due("PAIRS", x.count(1), 2);
    }

    private static void pack() {
        PassCourt x = new PassCourt();
        int r = c.make(x, a(Checks.PASS), a(Checks.PASS), a(Checks.IF, 1, 5), a(Checks.JUMP, 0, 1), a(Checks.PASS),
                a(Checks.PASS), a(Checks.SET, 1, 40), a(Checks.JUMP, 0, 50), a(Checks.IF, 2, 9), a(Checks.JUMP, 0, 8), a(Checks.PASS));
        int packed = x.pass(r, Checks.PACK);
        c.acts("PACK", x, packed, a(Checks.IF, 1, 2), a(Checks.JUMP, 0, 0), a(Checks.SET, 1, 40), a(Checks.JUMP, 0, 6),
                a(Checks.IF, 2, 5), a(Checks.JUMP, 0, 4));
        c.due("judge", x.judge(r, packed), 0);
        c.due("PAIRS", x.count(1), 12);
        int[] becomes = {0, 0, 0, 1, 2, 2, 2, 3, 4, 5, 6, 6};
        int[] rows = {2, 1, 0, 0, 2, 1, 0, 0, 0, 0, 1, 0};
        for (int place = 0; place <= 11; place++) {
            c.pair("" + place, x, place, a(place, becomes[place], rows[place] > 0 ? 1 : 0, rows[place]), ALL_SAME);
        }
        int end = c.make(x, a(Checks.PASS), a(Checks.IF, 1, 3), a(Checks.JUMP, 0, 2));
        c.acts("its END", x, x.pass(end, Checks.PACK), a(Checks.IF, 1, 2), a(Checks.JUMP, 0, 1));
    }

    private static void emptyRoutine() {
        PassCourt x = new PassCourt();
        int r = x.routine();
        int[] claims = {2, 0, 1, 1};
        for (int which = 0; which < 4; which++) {
            int made = x.pass(r, which);
            c.due("length", x.length(made), 0);
            c.due("PAIRS", x.count(1), 1);
            int k = claims[which];
            c.pair("empty", x, 0, a(0, 0, 0, 0), k, k, k, k, k, k, k, k);
            c.due("judge", x.judge(r, made), 0);
        }
    }

    private static void refusals() {
        PassCourt x = new PassCourt();
        int r = c.make(x, a(Checks.PASS));
        x.pair(3, 4, 2, 5);
        c.due("PASS 4", x.pass(r, 4), -2);
        c.due("PASS -1", x.pass(r, -1), -2);
        c.due("no routine", x.pass(1, 0), -2);
        c.due("routine -1", x.pass(-1, 0), -2);
        c.due("best of none", x.best(1), -2);
        c.due("best of -1", x.best(-1), -2);
        c.due("routines", x.count(0), 1);
        c.due("the WITNESS stays", x.of(0, 1), 4);
        c.due("best", x.best(r), 1);
        c.due("the WITNESS stays", x.of(0, 1), 4);
        c.due("PAIRS", x.count(1), 1);
        c.due("the routine stays", x.length(r), 1);
        x.pass(r, Checks.PACK);
        c.due("PAIRS of the new one alone", x.count(1), 2);
        x.pass(r, Checks.DROP);
        c.due("claims of the new one alone", x.of(0, 4), 0);
    }

    private static void best() {
        PassCourt x = new PassCourt();
        int r = c.make(x, a(Checks.SET, 1, 4), a(Checks.IF, 1, 4), a(Checks.READ, 2, 0), a(Checks.OUT, 2),
                a(Checks.ADD, 3, 1, 1), a(Checks.OUT, 3), a(Checks.PASS));
        c.due("best", x.best(r), 1);
        // The acts behind the JUMP stay: no PASS leaves out what is not come to.
        c.acts("best", x, 1, a(Checks.JUMP, 0, 3), a(Checks.READ, 2, 0), a(Checks.OUT, 2), a(Checks.SET, 3, 8), a(Checks.OUT, 3));
        c.due("the others are none", x.count(0), 2);
        c.due("best of the best", x.best(1), 2);
        c.due("is itself", x.same(1, 2), 1);
        c.due("an empty one", x.best(x.routine()), 4);
        c.due("is empty", x.length(4), 0);
    }

    /** An act that only a dropped act asked for is dropped a round later. */
    private static void bestAgain() {
        PassCourt x = new PassCourt();
        int three = c.make(x, a(Checks.READ, 1, 0), a(Checks.ADD, 2, 1, 1), a(Checks.MUL, 3, 2, 1), a(Checks.SUB, 4, 3, 1),
                a(Checks.OUT, 1));
        c.acts("three rounds", x, x.best(three), a(Checks.READ, 1, 0), a(Checks.OUT, 1));
        bestStays();
    }

    private static void bestStays() {
        PassCourt x = new PassCourt();
        int r = c.make(x, a(Checks.READ, 1, 0), a(Checks.SET, 2, 3), a(Checks.MOVE, 3, 2), a(Checks.MOVE, 4, 3),
                a(Checks.IF, 5, 0), a(Checks.OUT, 4), a(Checks.JUMP, 0, 9));
        int made = x.best(r);
        c.acts("best", x, made, a(Checks.READ, 1, 0), a(Checks.SET, 4, 3), a(Checks.OUT, 4), a(Checks.JUMP, 0, 4));
        int chain = made;
        for (int round = 0; round < 2; round++) {
            for (int which = 0; which < 4; which++) {
                chain = x.pass(chain, which);
                c.due("no PASS changes it", x.same(made, chain), 1);
                c.due("judge", x.judge(made, chain), 0);
            }
        }
    }
}
