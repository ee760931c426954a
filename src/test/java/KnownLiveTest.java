/** Promises 9 to 11: what is known and live ahead of each place. */
public final class KnownLiveTest {
    private static final Checks c = new Checks("KnownLiveTest");

    public static void main(String[] args) {
        beginning();
        reckoned();
        joins();
        placeZeroAgain();
        decidedIf();
        stops();
        live();
        liveLoop();
        c.finish();
    }

    private static int[] a(int... numbers) {
        return numbers;
    }

    private static void known(PassCourt x, int r, int place, int register, int want, long value) {
        String at = "(" + r + ", " + place + ", " + register + ")";
        c.due("known" + at, x.known(r, place, register), want);
        c.due("value" + at, x.value(r, place, register), value);
    }

    private static void beginning() {
        PassCourt x = new PassCourt();
        int r = x.routine();
        known(x, r, 0, 7, 1, 0);
        known(x, r, 0, 8, -2, 0);
        known(x, r, 0, -1, -2, 0);
        known(x, r, 1, 0, -2, 0);
        known(x, r, -1, 0, -2, 0);
        known(x, 1, 0, 0, -2, 0);
        known(x, -1, 0, 0, -2, 0);
        c.due("live", x.live(r, 0, 0), 0);
        c.due("live", x.live(r, 0, 8), -2);
        c.due("live", x.live(r, 0, -1), -2);
        c.due("live", x.live(r, 1, 0), -2);
        c.due("live", x.live(r, -1, 0), -2);
        c.due("live", x.live(1, 0, 0), -2);
        c.due("live", x.live(-1, 0, 0), -2);
    }

    private static void reckoned() {
        PassCourt x = new PassCourt();
        int r = c.make(x, a(Checks.SET, 1, -7), a(Checks.SET, 2, 2), a(Checks.DIV, 3, 1, 2), a(Checks.REM, 4, 1, 2),
                a(Checks.LESS, 5, 1, 2), a(Checks.MOVE, 6, 3), a(Checks.READ, 1, 2), a(Checks.MUL, 7, 1, 0),
                a(Checks.SUB, 2, 1, 1), a(Checks.ALIKE, 0, 6, 3));
        known(x, r, 1, 1, 1, -7);
        known(x, r, 0, 1, 1, 0);
        known(x, r, 3, 3, 1, -3);
        known(x, r, 4, 4, 1, -1);
        known(x, r, 5, 5, 1, 1);
        known(x, r, 6, 6, 1, -3);
        known(x, r, 7, 1, 0, 0);
        known(x, r, 8, 7, 0, 0); // made of what is not known, though it is 0
        known(x, r, 9, 2, 0, 0);
        known(x, r, 10, 0, 1, 1);
        known(x, r, 10, 3, 1, -3);
    }

    private static void joins() {
        PassCourt x = new PassCourt();
        int r = c.make(x, a(Checks.READ, 1, 0), a(Checks.IF, 1, 5), a(Checks.SET, 2, 4), a(Checks.SET, 3, 5),
                a(Checks.JUMP, 0, 7), a(Checks.SET, 2, 4), a(Checks.SET, 3, 6), a(Checks.OUT, 2));
        known(x, r, 7, 2, 1, 4);
        known(x, r, 7, 3, 0, 0);
        known(x, r, 8, 2, 1, 4);
        known(x, r, 5, 2, 1, 0);
        known(x, r, 4, 3, 1, 5);
    }

    private static void placeZeroAgain() {
        PassCourt x = new PassCourt();
        int r = c.make(x, a(Checks.OUT, 1), a(Checks.SET, 1, 5), a(Checks.MOVE, 3, 2), a(Checks.JUMP, 0, 0));
        known(x, r, 0, 1, 0, 0);
        known(x, r, 0, 2, 1, 0);
        known(x, r, 0, 3, 1, 0);
        known(x, r, 3, 1, 1, 5);
        known(x, r, 4, 1, -1, 0);
        int counter = c.make(x, a(Checks.SET, 1, 1), a(Checks.ADD, 2, 2, 1), a(Checks.LESS, 3, 2, 1), a(Checks.IF, 3, 0));
        known(x, counter, 0, 2, 1, 0); // the IF is known not to go back
        known(x, counter, 4, 2, 1, 1);
    }

    private static void decidedIf() {
        PassCourt x = new PassCourt();
        int r = c.make(x, a(Checks.IF, 1, 3), a(Checks.SET, 1, -2), a(Checks.IF, 1, 4), a(Checks.SET, 2, 9),
                a(Checks.HALT), a(Checks.PASS));
        known(x, r, 1, 2, 1, 0);
        known(x, r, 3, 2, -1, 0);
        known(x, r, 4, 2, 1, 0);
        known(x, r, 5, 2, -1, 0);
        known(x, r, 6, 1, 1, -2);
    }

    private static void stops() {
        PassCourt x = new PassCourt();
        int div = c.make(x, a(Checks.READ, 1, 0), a(Checks.REM, 2, 1, 0), a(Checks.PASS));
        known(x, div, 1, 1, 0, 0);
        known(x, div, 2, 0, -1, 0);
        known(x, div, 3, 0, -1, 0);
        int by = c.make(x, a(Checks.READ, 1, 0), a(Checks.DIV, 2, 0, 1), a(Checks.PASS));
        known(x, by, 2, 2, 0, 0);
        int below = c.make(x, a(Checks.SET, 1, -1), a(Checks.READ, 2, 1), a(Checks.PASS));
        known(x, below, 1, 1, 1, -1);
        known(x, below, 2, 1, -1, 0);
        int beyond = c.make(x, a(Checks.SET, 1, 99), a(Checks.READ, 1, 1), a(Checks.PASS));
        known(x, beyond, 2, 1, 0, 0);
    }

    private static void lives(PassCourt x, int r, int place, int... registers) {
        int[] want = new int[8];
        for (int register : registers) {
            want[register] = 1;
        }
        for (int register = 0; register < 8; register++) {
            c.due("live(" + r + ", " + place + ", " + register + ")", x.live(r, place, register), want[register]);
        }
    }

    private static void live() {
        PassCourt x = new PassCourt();
        int r = c.make(x, a(Checks.MOVE, 1, 2), a(Checks.READ, 3, 4), a(Checks.SET, 5, 6), a(Checks.LESS, 6, 1, 3),
                a(Checks.IF, 6, 7), a(Checks.OUT, 5), a(Checks.HALT), a(Checks.OUT, 7), a(Checks.JUMP, 0, 50));
        lives(x, r, 9);
        lives(x, r, 8);
        lives(x, r, 7, 7);
        lives(x, r, 6);
        lives(x, r, 5, 5);
        lives(x, r, 4, 5, 6, 7);
        lives(x, r, 3, 1, 3, 5, 7);
        lives(x, r, 2, 1, 3, 7);
        lives(x, r, 1, 1, 4, 7);
        lives(x, r, 0, 2, 4, 7);
        int own = c.make(x, a(Checks.DIV, 1, 1, 2));
        lives(x, own, 0, 1, 2); // a DIV may STOP, so it asks though nobody asks for x
        int notTold = c.make(x, a(Checks.MOVE, 1, 2), a(Checks.READ, 3, 4));
        lives(x, notTold, 1, 4);
        lives(x, notTold, 0, 2, 4);
        int known = c.make(x, a(Checks.IF, 1, 2), a(Checks.HALT), a(Checks.OUT, 3));
        lives(x, known, 0, 1, 3); // each way counts, known or not
    }

    private static void liveLoop() {
        PassCourt x = new PassCourt();
        int r = c.make(x, a(Checks.ADD, 1, 1, 2), a(Checks.IF, 3, 0), a(Checks.OUT, 4));
        lives(x, r, 0, 1, 2, 3, 4);
        lives(x, r, 1, 1, 2, 3, 4);
        lives(x, r, 2, 4);
        int endless = c.make(x, a(Checks.MOVE, 2, 1), a(Checks.JUMP, 0, 0));
        lives(x, endless, 0, 1);
        int quiet = c.make(x, a(Checks.JUMP, 0, 0), a(Checks.OUT, 1));
        lives(x, quiet, 0);
    }
}
