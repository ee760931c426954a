/** The document's edges, sentence by sentence: what acts do, the FEED and RUNS (Terms 1, promises 12 to 18). */
public final class EdgeRunsTest extends Edges {
    public static void main(String[] args) {
        begin("EdgeRunsTest");
        sixteen();
        dry();
        longsInTheFeed();
        zeroAtFirst();
        setAndMove();
        wraps();
        divides();
        byZero();
        compares();
        reads();
        readsNone();
        givesOut();
        jumps();
        ifs();
        halts();
        xInItsOwnAct();
        ends();
        fuel();
        fuelRefused();
        stopsCount();
        outs();
        twoHundred();
        ran();
        registers();
        c.finish();
    }

    private static void sixteen() {
        c.says("A number more to the FEED: how many it has. -2 when it has 16.");
        x = new PassCourt();
        for (int i = 1; i <= 16; i++) {
            c.due("feed", x.feed(100 + i), i);
        }
        for (int again = 0; again < 2; again++) {
            c.due("feed 17", x.feed(7), -2);
            c.due("sixteen", x.count(2), 16);
        }
        make(a(SET, 1, 15), a(READ, 2, 1), a(READ, 3, 0), a(SET, 1, 16), a(READ, 4, 1));
        c.due("there is no number 16", x.run(0, 9), 2);
        c.due("the last stays", x.register(2), 116);
        c.due("the first stays", x.register(3), 101);
    }

    private static void dry() {
        c.says("The FEED is empty: how many it had.");
        x = new PassCourt();
        c.due("none", x.dry(), 0);
        for (int i = 0; i < 16; i++) {
            x.feed(5);
        }
        c.due("sixteen", x.dry(), 16);
        c.due("none", x.dry(), 0);
        c.due("none", x.count(2), 0);
        make(a(READ, 1, 0));
        c.due("nothing to READ", x.run(0, 9), 2);
        c.due("one again", x.feed(8), 1);
        c.due("READ", x.run(0, 9), 0);
        c.due("the new one", x.register(1), 8);
        c.due("a RUN takes none away", x.dry(), 1);
    }

    private static void longsInTheFeed() {
        c.says("the FEED is a row of longs, 16 at most");
        long[] longs = {Long.MIN_VALUE, Long.MAX_VALUE, -1, 0, 1L << 32, 1L << 31};
        for (long v : longs) {
            x = new PassCourt();
            x.feed(v);
            make(a(READ, 7, 0), a(OUT, 7));
            c.due("run", x.run(0, 2), 0);
            c.due("out", x.out(0), v);
            c.due("register", x.register(7), v);
        }
    }

    private static void zeroAtFirst() {
        c.says("REGISTERS 0 to 7 hold longs, all 0 as a run begins");
        x = new PassCourt();
        int[][] row = new int[8][];
        int[][] told = new int[8][];
        for (int r = 0; r < 8; r++) {
            row[r] = a(SET, r, r + 1);
            told[r] = a(OUT, r);
        }
        make(row);
        make(told);
        x.run(0, 9);
        x.run(1, 9);
        c.due("outs", x.outs(), 8);
        for (int r = 0; r < 8; r++) {
            c.due("register " + r, x.out(r), 0);
        }
        x.run(0, 9);
        x.run(1, 0);
        for (int r = 0; r < 8; r++) {
            c.due("register " + r, x.register(r), 0);
        }
    }

    private static void setAndMove() {
        c.says("0 PASS: nothing. 1 SET: x becomes the number y. 2 MOVE: x becomes register y.");
        only(a(SET, 0, MOST), a(SET, 7, LEAST), a(MOVE, 1, 7), a(PASS), a(MOVE, 7, 0), a(MOVE, 3, 3));
        c.due("run", x.run(0, 6), 0);
        c.due("register 0", x.register(0), MOST);
        c.due("register 1", x.register(1), LEAST);
        c.due("register 7", x.register(7), MOST);
        c.due("register 3", x.register(3), 0);
    }

    /** What comes of two longs, as a RUN and as KNOWN tell it. */
    private static void comes(int kind, long y, long z, long want) {
        x = new PassCourt();
        x.feed(y);
        x.feed(z);
        make(a(READ, 2, 0), a(SET, 1, 1), a(READ, 3, 1), a(kind, 4, 2, 3));
        c.due("run", x.run(0, 9), 0);
        String what = "KIND " + kind + " of " + y + " and " + z;
        c.due(what, x.register(4), want);
        if (y == (int) y && z == (int) z) {
            int told = make(a(SET, 2, (int) y), a(SET, 3, (int) z), a(kind, 4, 2, 3));
            c.due(what + " is known", x.known(told, 3, 4), 1);
            c.due(what + " as known", x.value(told, 3, 4), want);
        }
    }

    private static void wraps() {
        c.says("3 ADD, 4 SUB, 5 MUL (they wrap)");
        comes(ADD, Long.MAX_VALUE, 1, Long.MIN_VALUE);
        comes(ADD, Long.MIN_VALUE, -1, Long.MAX_VALUE);
        comes(ADD, MOST, 1, 2147483648L);
        comes(SUB, Long.MIN_VALUE, 1, Long.MAX_VALUE);
        comes(SUB, Long.MAX_VALUE, -1, Long.MIN_VALUE);
        comes(SUB, 0, Long.MIN_VALUE, Long.MIN_VALUE);
        comes(SUB, LEAST, 1, -2147483649L);
        comes(SUB, 3, 10, -7);
        comes(MUL, Long.MAX_VALUE, 2, -2);
        comes(MUL, Long.MIN_VALUE, -1, Long.MIN_VALUE);
        comes(MUL, LEAST, LEAST, 1L << 62);
        comes(MUL, 1L << 32, 1L << 32, 0);
    }

    private static void divides() {
        c.says("6 DIV, 7 REM (as for longs, towards 0; by 0: STOP 1)");
        long[][] rows = {{7, 2, 3, 1}, {-7, 2, -3, -1}, {7, -2, -3, 1}, {-7, -2, 3, -1}, {0, 5, 0, 0}, {1, 2, 0, 1},
                {-1, 2, 0, -1}, {Long.MIN_VALUE, -1, Long.MIN_VALUE, 0}, {Long.MIN_VALUE, 1, Long.MIN_VALUE, 0},
                {Long.MAX_VALUE, -1, -Long.MAX_VALUE, 0}, {LEAST, -1, 2147483648L, 0}, {5, Long.MIN_VALUE, 0, 5}};
        for (long[] row : rows) {
            comes(DIV, row[0], row[1], row[2]);
            comes(REM, row[0], row[1], row[3]);
        }
    }

    private static void byZero() {
        c.says("(as for longs, towards 0; by 0: STOP 1)");
        for (int kind : a(DIV, REM)) {
            for (int y : a(0, 1, -1, LEAST)) {
                only(a(SET, 2, y), a(SET, 1, 44), a(kind, 1, 2, 3), a(OUT, 1));
                c.due("STOP", x.run(0, 9), 1);
                c.due("acts done", x.ran(0), 3);
                c.due("PLACE", x.ran(1), 2);
                c.due("x is as ahead", x.register(1), 44);
                c.due("nothing is given out", x.outs(), 0);
            }
        }
    }

    private static void compares() {
        c.says("8 LESS (1 if y is less than z, else 0), 9 ALIKE (1 if they are the same, else 0)");
        comes(LESS, 1, 2, 1);
        comes(LESS, 2, 2, 0);
        comes(LESS, 2, 1, 0);
        comes(LESS, -1, 0, 1);
        comes(LESS, Long.MIN_VALUE, Long.MAX_VALUE, 1);
        comes(LESS, Long.MAX_VALUE, Long.MIN_VALUE, 0);
        comes(LESS, 0, 1L << 32, 1);
        comes(ALIKE, 2, 2, 1);
        comes(ALIKE, 2, 3, 0);
        comes(ALIKE, 0, 1L << 32, 0);
        comes(ALIKE, Long.MIN_VALUE, Long.MIN_VALUE, 1);
        comes(ALIKE, Long.MIN_VALUE, Long.MAX_VALUE, 0);
    }

    private static void reads() {
        c.says("x becomes that number of the FEED whose place, from 0 on, is in register y");
        for (int i = 0; i < 16; i++) {
            x = new PassCourt();
            for (int k = 0; k <= i; k++) {
                x.feed(1000 - k);
            }
            make(a(SET, 1, i), a(READ, 1, 1));
            c.due("run", x.run(0, 9), 0);
            c.due("the last", x.register(1), 1000 - i);
        }
    }

    private static void readsNone() {
        c.says("(there is none: STOP 2)");
        for (int had : a(0, 1, 15, 16)) {
            for (int place : a(LEAST, -1, had, had + 1, 99, MOST)) {
                x = new PassCourt();
                for (int i = 0; i < had; i++) {
                    x.feed(4);
                }
                make(a(SET, 1, place), a(SET, 2, 6), a(READ, 2, 1), a(OUT, 2));
                c.due("READ at " + place + " of " + had, x.run(0, 9), 2);
                c.due("acts done", x.ran(0), 3);
                c.due("PLACE", x.ran(1), 2);
                c.due("x is as ahead", x.register(2), 6);
                c.due("nothing is given out", x.outs(), 0);
            }
        }
        for (long far : new long[] {1L << 32, Long.MAX_VALUE, Long.MIN_VALUE, -(1L << 32)}) {
            x = new PassCourt();
            x.feed(far);
            make(a(READ, 1, 0), a(READ, 1, 1));
            c.due("READ at " + far, x.run(0, 9), 2);
        }
    }

    private static void givesOut() {
        c.says("11 OUT: register x is given out.");
        only(a(SET, 7, 9), a(OUT, 7), a(OUT, 0), a(OUT, 7));
        c.due("run", x.run(0, 9), 0);
        c.due("outs", x.outs(), 3);
        c.due("first", x.out(0), 9);
        c.due("second", x.out(1), 0);
        c.due("third", x.out(2), 9);
    }

    private static void jumps() {
        c.says("12 JUMP: to PLACE y.");
        for (int y : a(2, 3, 4, 5, 6, 49, 50)) {
            only(a(JUMP, 0, y), a(OUT, 0), a(SET, 1, 2), a(SET, 2, 3), a(SET, 3, 4), a(SET, 4, 5));
            c.due("run", x.run(0, 99), 0);
            c.due("acts done", x.ran(0), 1 + Math.max(0, 6 - y));
            c.due("the END", x.ran(1), 6);
        }
        only(a(JUMP, 0, 0));
        c.due("to itself", x.run(0, 77), 3);
        c.due("acts done", x.ran(0), 77);
        c.due("PLACE", x.ran(1), 0);
    }

    private static void ifs() {
        c.says("13 IF: if register x is not 0, to PLACE y.");
        for (long v : new long[] {Long.MIN_VALUE, -1, 0, 1, 1L << 32, Long.MAX_VALUE}) {
            x = new PassCourt();
            x.feed(v);
            make(a(READ, 7, 0), a(IF, 7, 3), a(OUT, 7));
            c.due("run", x.run(0, 9), 0);
            c.due("outs with " + v, x.outs(), v == 0 ? 1 : 0);
        }
    }

    private static void halts() {
        c.says("14 HALT: to the END.");
        only(a(HALT), a(OUT, 0));
        c.due("run", x.run(0, 9), 0);
        c.due("acts done", x.ran(0), 1);
        c.due("the END", x.ran(1), 2);
        c.due("outs", x.outs(), 0);
    }

    private static void xInItsOwnAct() {
        c.says("x becomes what comes of registers y and z.");
        only(a(SET, 1, 5), a(ADD, 1, 1, 1), a(SUB, 1, 1, 1), a(ALIKE, 1, 1, 1), a(ADD, 1, 1, 1), a(MUL, 1, 1, 1));
        for (int fuel = 1; fuel <= 6; fuel++) {
            x.run(0, fuel);
            c.due("after " + fuel, x.register(1), a(0, 5, 10, 0, 1, 2, 4)[fuel]);
        }
    }

    private static void ends() {
        c.says("A RUN goes from PLACE 0 until it comes to the END, or STOPS, or so many acts were done.");
        only();
        c.due("no acts, no fuel", x.run(0, 0), 0);
        c.due("no acts", x.run(0, 5), 0);
        c.due("acts done", x.ran(0), 0);
        c.due("the END", x.ran(1), 0);
        c.says("When an act does not say otherwise the next one follows.");
        only(times(50, PASS));
        c.due("fifty acts", x.run(0, 50), 0);
        c.due("acts done", x.ran(0), 50);
        c.due("the END", x.ran(1), 50);
        c.due("one less", x.run(0, 49), 3);
        c.due("PLACE", x.ran(1), 49);
    }

    private static void fuel() {
        c.says("A RUN of a routine of at most so many acts: 0 it came to the END, 1 STOP 1, 2 STOP 2, "
                + "3 so many acts were done and it is not at the END.");
        only(a(SET, 1, 1), a(IF, 1, 1));
        for (int fuel : a(0, 1, 2, 99999, 100000)) {
            c.due("run with " + fuel, x.run(0, fuel), 3);
            c.due("acts done", x.ran(0), fuel);
            c.due("PLACE", x.ran(1), fuel == 0 ? 0 : 1);
        }
        only(a(PASS), a(HALT), a(PASS));
        c.due("no fuel", x.run(0, 0), 3);
        c.due("one", x.run(0, 1), 3);
        c.due("just enough", x.run(0, 2), 0);
        c.due("the END", x.ran(1), 3);
        c.due("more than enough", x.run(0, 3), 0);
        c.due("acts done", x.ran(0), 2);
        only(a(JUMP, 0, 50));
        c.due("just enough for a JUMP", x.run(0, 1), 0);
    }

    private static void fuelRefused() {
        c.says("-2 when there is no such routine, or fuel is not 0..100000.");
        only(a(SET, 1, 6), a(OUT, 1));
        x.run(0, 100000);
        for (int fuel : a(LEAST, -1, 100001, MOST)) {
            c.due("fuel " + fuel, x.run(0, fuel), -2);
        }
        for (int routine : a(LEAST, -1, 1, 40, MOST)) {
            c.due("routine " + routine, x.run(routine, 5), -2);
        }
        c.due("the latest RUN is that ahead", x.ran(0), 2);
        c.due("PLACE", x.ran(1), 2);
        c.due("outs", x.outs(), 1);
        c.due("out", x.out(0), 6);
        c.due("register", x.register(1), 6);
    }

    private static void stopsCount() {
        c.says("(An act that STOPS counts.)");
        for (int kind : a(DIV, REM, READ)) {
            only(a(PASS), a(kind, 1, 2, kind == READ ? 0 : 3));
            int stop = kind == READ ? 2 : 1;
            c.due("fuel for both", x.run(0, 2), stop);
            c.due("acts done", x.ran(0), 2);
            c.due("where it STOPPED", x.ran(1), 1);
            c.due("fuel for one", x.run(0, 1), 3);
            c.due("acts done", x.ran(0), 1);
            c.due("PLACE", x.ran(1), 1);
        }
        only(a(DIV, 1, 2, 3));
        c.due("the first act", x.run(0, 1), 1);
        c.due("no fuel for it", x.run(0, 0), 3);
    }

    private static void outs() {
        c.says("How many numbers the latest RUN gave out.");
        only(a(OUT, 1), a(JUMP, 0, 0));
        for (int fuel : a(0, 1, 2, 3, 399, 400, 401, 100000)) {
            x.run(0, fuel);
            c.due("outs", x.outs(), (fuel + 1) / 2);
        }
        x.run(0, 0);
        c.due("none again", x.outs(), 0);
    }

    private static void twoHundred() {
        c.says("The i-th of them, from 0 on; of more than 200 the first 200 are told. 0 when there is none such.");
        only(a(SET, 1, 1), a(ADD, 2, 2, 1), a(OUT, 2), a(JUMP, 0, 1));
        for (int given : a(1, 199, 200, 201, 1000)) {
            x.run(0, 3 * given);
            c.due("given", x.outs(), given);
            c.due("the first", x.out(0), 1);
            c.due("number 198", x.out(198), given > 198 ? 199 : 0);
            c.due("number 199", x.out(199), given > 199 ? 200 : 0);
            c.due("number 200", x.out(200), 0);
            c.due("number 201", x.out(201), 0);
            c.due("behind the last", x.out(given), 0);
            c.due("-1", x.out(-1), 0);
            c.due("the least", x.out(LEAST), 0);
            c.due("the most", x.out(MOST), 0);
        }
        x.run(0, 3);
        c.due("of one", x.outs(), 1);
        c.due("no second one of an earlier RUN", x.out(1), 0);
    }

    private static void ran() {
        c.says("Of the latest RUN: 0 how many acts it did, 1 the PLACE where it was then (where it STOPPED). "
                + "-2 for another what; 0 before the first RUN.");
        x = new PassCourt();
        c.due("acts done", x.ran(0), 0);
        c.due("PLACE", x.ran(1), 0);
        make(a(PASS), a(PASS));
        x.run(9, 9);
        x.run(0, -1);
        c.due("a refused one is no RUN", x.ran(0), 0);
        c.due("a refused one is no RUN", x.ran(1), 0);
        x.run(0, 2);
        for (int what : a(LEAST, -1, 2, 3, MOST)) {
            c.due("what " + what, x.ran(what), -2);
        }
        c.due("acts done", x.ran(0), 2);
        c.due("PLACE", x.ran(1), 2);
        x.act(0, PASS, 0, 0, 0);
        c.due("the PLACE where it was then", x.ran(1), 2);
    }

    private static void registers() {
        c.says("What register x had behind the latest RUN (0 before the first one). 0 when there is no such register.");
        x = new PassCourt();
        for (int r = -1; r <= 8; r++) {
            c.due("before the first RUN", x.register(r), 0);
        }
        int[][] row = new int[8][];
        for (int r = 0; r < 8; r++) {
            row[r] = a(SET, r, 10 + r);
        }
        make(row);
        x.run(0, 8);
        for (int r = 0; r < 8; r++) {
            c.due("register " + r, x.register(r), 10 + r);
        }
        for (int r : a(LEAST, -1, 8, 9, MOST)) {
            c.due("register " + r, x.register(r), 0);
        }
        x.run(0, 7);
        c.due("one act less", x.register(7), 0);
        c.due("one act less", x.register(6), 16);
    }
}
