/** Promises 19 to 23: PAIRS and their claims, made by hand. */
public final class WitnessTest {
    private static final Checks c = new Checks("WitnessTest");

    public static void main(String[] args) {
        pairs();
        pairLimit();
        claims();
        clear();
        c.finish();
    }

    private static void pairs() {
        PassCourt x = new PassCourt();
        c.due("pair", x.pair(50, 0, 2, 1000), 0);
        c.due("pair", x.pair(0, 50, 0, 0), 1);
        int[][] wrong = {{-1, 0, 0, 0}, {51, 0, 0, 0}, {0, -1, 0, 0}, {0, 51, 0, 0}, {0, 0, -1, 0}, {0, 0, 3, 0},
                {0, 0, 0, -1}, {0, 0, 0, 1001}};
        for (int[] w : wrong) {
            c.due("refused " + java.util.Arrays.toString(w), x.pair(w[0], w[1], w[2], w[3]), -2);
        }
        c.due("count", x.count(1), 2);
        c.pair("0", x, 0, new int[] {50, 0, 2, 1000}, 0, 0, 0, 0, 0, 0, 0, 0);
        c.pair("1", x, 1, new int[] {0, 50, 0, 0}, 0, 0, 0, 0, 0, 0, 0, 0);
        c.due("of none", x.of(2, 0), -2);
        c.due("of -1", x.of(-1, 0), -2);
        c.due("what 12", x.of(0, 12), -2);
        c.due("what -1", x.of(0, -1), -2);
    }

    private static void pairLimit() {
        PassCourt x = new PassCourt();
        for (int i = 0; i < 200; i++) {
            c.due("pair", x.pair(i % 51, 0, 0, i), i);
        }
        c.due("pair 201", x.pair(0, 0, 0, 0), -2);
        c.due("last", x.of(199, 3), 199);
        c.due("clear", x.clear(), 200);
        c.due("pair", x.pair(0, 0, 0, 0), 0);
    }

    private static void claims() {
        PassCourt x = new PassCourt();
        x.pair(0, 0, 0, 0);
        c.due("was 0", x.claim(0, 3, 2, Long.MIN_VALUE), 0);
        c.due("number", x.number(0, 3), Long.MIN_VALUE);
        c.due("of", x.of(0, 7), 2);
        c.due("was 2", x.claim(0, 3, 2, 8), 2);
        c.due("number", x.number(0, 3), 8);
        c.due("was 2", x.claim(0, 3, 1, 99), 2);
        c.due("of", x.of(0, 7), 1);
        c.due("number of claim 1", x.number(0, 3), 0);
        c.due("was 1", x.claim(0, 3, 0, 99), 1);
        c.due("number of no claim", x.number(0, 3), 0);
        x.claim(0, 7, 2, 5);
        int[][] wrong = {{1, 7, 0}, {-1, 7, 0}, {0, 8, 0}, {0, -1, 0}, {0, 7, 3}, {0, 7, -1}};
        for (int[] w : wrong) {
            c.due("refused " + java.util.Arrays.toString(w), x.claim(w[0], w[1], w[2], 6), -2);
        }
        c.due("number stays", x.number(0, 7), 5);
        c.due("no pair", x.number(1, 7), 0);
        c.due("pair -1", x.number(-1, 7), 0);
        c.due("register 8", x.number(0, 8), 0);
        c.due("register -1", x.number(0, -1), 0);
    }

    private static void clear() {
        PassCourt x = new PassCourt();
        x.pair(4, 4, 1, 4);
        x.claim(0, 0, 2, 9);
        c.due("clear", x.clear(), 1);
        c.due("clear again", x.clear(), 0);
        c.due("none", x.of(0, 0), -2);
        c.due("no number", x.number(0, 0), 0);
        c.due("refused", x.claim(0, 0, 1, 0), -2);
        x.pair(4, 4, 1, 4);
        c.due("claims begin as 0", x.of(0, 4), 0);
        c.due("numbers too", x.number(0, 0), 0);
    }
}
