/** Promises 24 and 25: every FAULT, what is QUIET, what is the SAME, and which of several counts. */
public final class JudgeTest {
    private static final Checks c = new Checks("JudgeTest");

    public static void main(String[] args) {
        refusals();
        beginning();
        quietAlone();
        notQuietAlone();
        goTogether();
        sameAsked();
        stopsInBoth();
        noPair();
        measures();
        claimsFollow();
        madeThings();
        twoWays();
        firstCounts();
        placesBeyond();
        everyRegister();
        fullRoutine();
        c.finish();
    }

    private static int[] a(int... numbers) {
        return numbers;
    }

    private static PassCourt x;

    /** A new court with routine 0 and routine 1 of these acts. */
    private static void court(int[][] first, int[][] second) {
        x = new PassCourt();
        c.make(x, first);
        c.make(x, second);
    }

    /** A PAIR with claims, each told as the register and the claim, or, for claim 2, {register, 2, number}. */
    private static void pair(int p, int q, int mode, int measure, int[]... claims) {
        int pair = x.pair(p, q, mode, measure);
        for (int[] k : claims) {
            x.claim(pair, k[0], k[1], k.length > 2 ? k[2] : 0);
        }
    }

    private static void judged(String what, int fault, int where) {
        c.due(what, x.judge(0, 1), fault);
        c.due(what + ": where", x.where(), where);
    }

    private static int[][] acts(int[]... acts) {
        return acts;
    }

    private static void refusals() {
        court(acts(), acts());
        judged("empty WITNESS", 1, 0);
        c.due("no second", x.judge(0, 2), -2);
        c.due("where of a refused one", x.where(), -1);
        judged("again", 1, 0);
        c.due("no first", x.judge(-1, 0), -2);
        c.due("where of a refused one", x.where(), -1);
        pair(0, 0, 0, 0);
        judged("both at their END", 0, -1);
    }

    private static void beginning() {
        court(acts(a(Checks.HALT)), acts(a(Checks.HALT)));
        pair(1, 1, 0, 0);
        judged("no PAIR of 0 and 0", 1, 0);
        pair(0, 0, 0, 0, a(3, 2, 1));
        judged("not so as a RUN begins", 2, 1);
        x.claim(1, 3, 2, 0);
        x.claim(1, 4, 1, 0);
        judged("so", 0, -1);
    }

    private static void quietAlone() {
        int[][] quiet = {a(Checks.PASS), a(Checks.SET, 1, 5), a(Checks.MOVE, 1, 2), a(Checks.ADD, 1, 2, 3),
                a(Checks.SUB, 1, 2, 3), a(Checks.MUL, 1, 2, 3), a(Checks.LESS, 1, 2, 3), a(Checks.ALIKE, 1, 2, 3),
                a(Checks.JUMP, 0, 1), a(Checks.HALT)};
        for (int[] act : quiet) {
            court(acts(act), acts());
            pair(0, 0, 1, 1);
            pair(1, 0, 0, 0);
            judged("first alone at " + act[0], 0, -1);
            court(acts(), acts(act));
            pair(0, 0, 2, 1);
            pair(0, 1, 0, 0);
            judged("second alone at " + act[0], 0, -1);
            court(acts(act), acts());
            pair(0, 0, 0, 0);
            pair(1, 0, 0, 0);
            judged("an act and the END", 3, 0);
        }
        int[][] guarded = {a(Checks.DIV, 1, 2, 3), a(Checks.REM, 1, 2, 3), a(Checks.IF, 3, 50)};
        for (int[] act : guarded) {
            court(acts(a(Checks.SET, 3, 7), act), acts(a(Checks.SET, 3, 7)));
            pair(0, 0, 0, 0);
            pair(1, 1, 1, 1, a(3, 2, 7));
            pair(2, 1, 0, 0);
            judged("known, " + act[0], 0, -1);
            x.claim(1, 3, 1, 0);
            judged("not known, " + act[0], 3, 1);
        }
    }

    private static void notQuietAlone() {
        int[][] loud = {a(Checks.READ, 1, 2), a(Checks.OUT, 1), a(Checks.DIV, 1, 2, 3), a(Checks.REM, 1, 2, 3), a(Checks.IF, 1, 1)};
        for (int[] act : loud) {
            court(acts(act), acts());
            pair(0, 0, 1, 1, a(2, 1), a(3, 1));
            pair(1, 0, 0, 0);
            judged("not quiet: " + act[0], 3, 0);
            court(acts(), acts(act));
            pair(0, 0, 2, 1);
            judged("not quiet: " + act[0], 3, 0);
        }
        court(acts(a(Checks.DIV, 1, 2, 3)), acts());
        pair(0, 0, 1, 1, a(2, 2, 0), a(3, 2, 0));
        judged("by what is known as 0", 3, 0);
        court(acts(), acts());
        pair(0, 0, 1, 1);
        judged("MODE 1 at the END", 3, 0);
        court(acts(), acts());
        pair(0, 0, 2, 1);
        judged("MODE 2 at the END", 3, 0);
    }

    private static void goTogether() {
        court(acts(a(Checks.OUT, 1)), acts(a(Checks.PASS)));
        pair(0, 0, 0, 0);
        judged("OUT and PASS", 3, 0);
        court(acts(a(Checks.DIV, 1, 2, 3)), acts(a(Checks.REM, 1, 2, 3)));
        pair(0, 0, 0, 0, a(2, 2, 0), a(3, 2, 0));
        judged("DIV and REM", 3, 0);
        court(acts(a(Checks.READ, 1, 2)), acts(a(Checks.OUT, 1)));
        pair(0, 0, 0, 0, a(1, 1), a(2, 1));
        judged("READ and OUT", 3, 0);
        court(acts(a(Checks.IF, 1, 1)), acts(a(Checks.JUMP, 0, 1)));
        pair(0, 0, 0, 0, a(1, 1));
        judged("IF of what is not known and JUMP", 3, 0);
        x.claim(0, 1, 2, 0);
        pair(1, 1, 0, 0);
        judged("IF of what is known and JUMP", 0, -1);
        court(acts(a(Checks.SET, 1, 1), a(Checks.IF, 1, 5), a(Checks.OUT, 1)), acts(a(Checks.SET, 1, 1), a(Checks.HALT), a(Checks.OUT, 1)));
        pair(0, 0, 0, 0);
        pair(1, 1, 0, 0, a(1, 2, 1));
        pair(3, 3, 0, 0);
        judged("each goes its own way", 0, -1);
    }

    private static void sameAsked() {
        int[][] loud = {a(Checks.OUT, 1), a(Checks.IF, 1, 1), a(Checks.READ, 3, 1), a(Checks.DIV, 3, 2, 1), a(Checks.DIV, 3, 1, 2), a(Checks.REM, 3, 2, 1)};
        for (int[] act : loud) {
            court(acts(act), acts(act));
            pair(0, 0, 0, 0, a(2, 1));
            pair(1, 1, 0, 0);
            judged("no claim of what is asked by " + act[0], 4, 0);
            x.claim(0, 1, 1, 0);
            judged("a claim", 0, -1);
        }
        court(acts(a(Checks.OUT, 1)), acts(a(Checks.OUT, 2)));
        pair(0, 0, 0, 0, a(1, 1), a(2, 1));
        pair(1, 1, 0, 0);
        judged("two registers, each the same in both", 4, 0);
        x.claim(0, 1, 2, 0);
        x.claim(0, 2, 2, 0);
        judged("two registers, one number", 0, -1);
        court(acts(a(Checks.SET, 1, 3), a(Checks.OUT, 1)), acts(a(Checks.SET, 1, 3), a(Checks.OUT, 2)));
        pair(0, 0, 0, 0, a(2, 2, 0));
        pair(1, 1, 0, 0, a(1, 2, 3), a(2, 2, 0));
        pair(2, 2, 0, 0);
        judged("two numbers", 4, 1);
        court(acts(a(Checks.IF, 1, 1)), acts(a(Checks.IF, 2, 1)));
        pair(0, 0, 0, 0, a(1, 2, 0), a(2, 1));
        judged("IF of what is known and IF of what is not", 4, 0);
    }

    private static void stopsInBoth() {
        court(acts(a(Checks.DIV, 1, 2, 3), a(Checks.OUT, 1)), acts(a(Checks.DIV, 1, 2, 4)));
        pair(0, 0, 0, 0, a(2, 1), a(3, 2, 0), a(4, 2, 0));
        judged("both by 0", 0, -1);
        x.claim(0, 2, 0, 0);
        judged("y must be the SAME all the same", 4, 0);
        court(acts(a(Checks.SET, 2, -1), a(Checks.READ, 1, 2)), acts(a(Checks.SET, 2, -1), a(Checks.READ, 3, 2)));
        pair(0, 0, 0, 0);
        pair(1, 1, 0, 0, a(2, 2, -1));
        judged("both READ below 0", 0, -1);
        court(acts(a(Checks.READ, 1, 2)), acts(a(Checks.READ, 1, 2)));
        pair(0, 0, 0, 0, a(2, 2, 0));
        judged("both READ at 0", 5, 0);
    }

    private static void noPair() {
        court(acts(a(Checks.OUT, 1), a(Checks.PASS)), acts(a(Checks.OUT, 1), a(Checks.PASS)));
        pair(0, 0, 0, 0, a(1, 1));
        judged("behind OUT", 5, 0);
        pair(1, 1, 0, 0);
        judged("behind PASS", 5, 1);
        pair(2, 2, 0, 0);
        judged("all there", 0, -1);
        court(acts(a(Checks.PASS)), acts(a(Checks.PASS)));
        pair(0, 0, 1, 4);
        pair(1, 1, 0, 0);
        judged("the other does nothing", 5, 0);
    }

    private static void measures() {
        court(acts(a(Checks.JUMP, 0, 0)), acts());
        pair(0, 0, 1, 3);
        judged("an endless one alone", 6, 0);
        court(acts(a(Checks.PASS)), acts());
        pair(0, 0, 1, 3);
        pair(1, 0, 0, 3, a(1, 2, 9));
        judged("no lesser MEASURE, ahead of a claim", 6, 0);
        court(acts(a(Checks.PASS)), acts());
        pair(0, 0, 1, 3);
        pair(1, 0, 0, 2);
        judged("a lesser one", 0, -1);
        court(acts(a(Checks.JUMP, 0, 0)), acts(a(Checks.JUMP, 0, 0)));
        pair(0, 0, 0, 0);
        judged("MODE 0 asks for none", 0, -1);
    }

    private static void claimsFollow() {
        court(acts(a(Checks.SET, 1, 5)), acts(a(Checks.SET, 2, 5)));
        pair(0, 0, 0, 0, a(1, 1), a(2, 1), a(3, 1), a(4, 2, 0));
        pair(1, 1, 0, 0, a(3, 1), a(4, 2, 0));
        judged("what no act makes", 0, -1);
        x.claim(1, 1, 1, 0);
        judged("what one makes", 7, 0);
        x.claim(1, 1, 2, 5);
        judged("what one knows", 7, 0);
        x.claim(1, 1, 0, 0);
        x.claim(1, 4, 1, 0);
        judged("a number is the same", 0, -1);
        x.claim(1, 3, 2, 0);
        judged("the same is no number", 7, 0);
        court(acts(a(Checks.SET, 1, 5)), acts());
        pair(0, 0, 1, 1);
        pair(1, 0, 0, 0, a(1, 2, 5));
        judged("one alone", 7, 0);
        court(acts(a(Checks.SET, 1, 0)), acts());
        pair(0, 0, 1, 1, a(1, 2, 0));
        pair(1, 0, 0, 0, a(1, 2, 0));
        judged("one alone, to the other's number", 0, -1);
        court(acts(a(Checks.ADD, 1, 2, 3)), acts(a(Checks.SET, 1, 0)));
        pair(0, 0, 0, 0, a(2, 2, 0), a(3, 2, 0));
        pair(1, 1, 0, 0, a(1, 2, 0));
        judged("a made number", 0, -1);
    }

    /** Two acts at 0, claims 1 of registers 2, 3 and 4 ahead: whether register 1 is the same behind them. */
    private static void made(String what, int[] first, int[] second, boolean same) {
        court(acts(first), acts(second));
        pair(0, 0, 0, 0, a(2, 1), a(3, 1), a(4, 1), a(5, 2, 0));
        pair(1, 1, 0, 0, a(1, 1));
        judged(what, same ? 0 : 7, same ? -1 : 0);
    }

    private static void madeThings() {
        made("one act", a(Checks.ADD, 1, 2, 3), a(Checks.ADD, 1, 2, 3), true);
        made("in this order", a(Checks.ADD, 1, 2, 3), a(Checks.ADD, 1, 3, 2), false);
        made("another KIND", a(Checks.ADD, 1, 2, 3), a(Checks.SUB, 1, 2, 3), false);
        made("another register", a(Checks.ADD, 1, 2, 3), a(Checks.ADD, 1, 2, 4), false);
        made("a number among them", a(Checks.MUL, 1, 2, 5), a(Checks.MUL, 1, 2, 5), true);
        made("a number made of what is not known", a(Checks.MUL, 1, 5, 2), a(Checks.SET, 1, 0), false);
        made("a number ahead of what is not known", a(Checks.MUL, 1, 5, 2), a(Checks.MUL, 1, 5, 2), true);
        made("what is not claimed", a(Checks.ADD, 1, 2, 6), a(Checks.ADD, 1, 2, 6), false);
        made("MOVE", a(Checks.MOVE, 1, 2), a(Checks.MOVE, 1, 2), true);
        made("MOVES of two", a(Checks.MOVE, 1, 2), a(Checks.MOVE, 1, 3), false);
        made("MOVE of a number", a(Checks.MOVE, 1, 5), a(Checks.SET, 1, 0), true);
        made("a sum of 0 and it is another thing", a(Checks.ADD, 1, 2, 5), a(Checks.MOVE, 1, 2), false);
        made("READ", a(Checks.READ, 1, 2), a(Checks.READ, 1, 2), true);
        made("DIV", a(Checks.DIV, 1, 2, 3), a(Checks.DIV, 1, 2, 3), true);
        court(acts(a(Checks.SET, 5, 2), a(Checks.DIV, 1, 2, 5)), acts(a(Checks.SET, 5, 2), a(Checks.DIV, 1, 2, 5)));
        pair(0, 0, 0, 0, a(2, 1));
        pair(1, 1, 0, 0, a(2, 1), a(5, 2, 2));
        pair(2, 2, 0, 0, a(1, 1));
        judged("a quiet DIV", 0, -1);
        court(acts(a(Checks.ADD, 2, 2, 2)), acts(a(Checks.ADD, 2, 2, 2)));
        pair(0, 0, 0, 0, a(2, 1));
        pair(1, 1, 0, 0, a(2, 1));
        judged("x made of itself", 0, -1);
        court(acts(a(Checks.READ, 2, 3)), acts(a(Checks.READ, 4, 3)));
        pair(0, 0, 0, 0, a(3, 1), a(2, 1), a(4, 1));
        pair(1, 1, 0, 0, a(2, 1));
        judged("READ into two", 7, 0);
    }

    private static void twoWays() {
        court(acts(a(Checks.IF, 1, 2), a(Checks.OUT, 1)), acts(a(Checks.IF, 1, 2), a(Checks.OUT, 1)));
        pair(0, 0, 0, 0, a(1, 1));
        judged("no way", 5, 0);
        pair(1, 1, 0, 0, a(1, 1));
        judged("no way to y", 5, 0);
        pair(2, 2, 0, 0);
        judged("both ways", 0, -1);
        court(acts(a(Checks.IF, 1, 2), a(Checks.OUT, 1)), acts(a(Checks.IF, 1, 2), a(Checks.OUT, 1)));
        pair(0, 0, 0, 0, a(1, 1));
        pair(1, 1, 0, 0, a(1, 1), a(2, 1));
        judged("a claim of the first way ahead of no PAIR of the second", 7, 0);
        court(acts(a(Checks.IF, 1, 2), a(Checks.OUT, 1)), acts(a(Checks.IF, 1, 2), a(Checks.OUT, 1)));
        pair(0, 0, 0, 0, a(1, 1));
        pair(1, 1, 0, 0, a(1, 1));
        pair(2, 2, 0, 0, a(2, 1));
        judged("a claim of the second way", 7, 0);
    }

    private static void firstCounts() {
        court(acts(a(Checks.PASS)), acts(a(Checks.PASS)));
        pair(0, 0, 0, 0);
        pair(1, 1, 0, 0, a(1, 1));
        pair(1, 1, 0, 0);
        judged("the first of two", 7, 0);
        court(acts(a(Checks.PASS)), acts(a(Checks.PASS)));
        pair(0, 0, 0, 0, a(1, 2, 7));
        pair(0, 0, 0, 0);
        judged("the first of 0 and 0", 2, 0);
        court(acts(a(Checks.PASS)), acts(a(Checks.PASS)));
        pair(0, 0, 0, 0);
        pair(1, 1, 0, 0);
        pair(1, 0, 0, 0);
        pair(0, 1, 1, 0);
        judged("the first at fault is told", 3, 2);
    }

    private static void placesBeyond() {
        court(acts(a(Checks.JUMP, 0, 50)), acts(a(Checks.JUMP, 0, 30)));
        pair(0, 0, 0, 0);
        pair(40, 2, 0, 0);
        judged("beyond the END is the END", 0, -1);
        court(acts(), acts());
        pair(50, 7, 0, 0);
        judged("the END of an empty one is 0", 0, -1);
        c.due("as it was told", x.of(0, 0), 50);
    }

    private static void everyRegister() {
        for (int r = 0; r < 8; r++) {
            court(acts(a(Checks.PASS)), acts(a(Checks.PASS)));
            pair(0, 0, 0, 0, a(r, 2, 1));
            judged("not so of register " + r, 2, 0);
            court(acts(a(Checks.PASS)), acts(a(Checks.PASS)));
            pair(0, 0, 0, 0, a(r, 1));
            pair(1, 1, 0, 0, a(r, 2, 0));
            judged("no number in register " + r, 7, 0);
            x.claim(1, r, 1, 0);
            judged("the same in register " + r, 0, -1);
            x.claim(0, r, 0, 0);
            judged("not the same in register " + r, 7, 0);
            court(acts(a(Checks.DIV, 1, 1, r)), acts(a(Checks.DIV, 1, 1, r)));
            pair(0, 0, 0, 0, a(1, 1), a(r, 1));
            judged("by what is not known in register " + r, 5, 0);
            court(acts(a(Checks.READ, 1, r)), acts(a(Checks.READ, 1, r)));
            pair(0, 0, 0, 0, a(r, 1));
            judged("READ by what is not known in register " + r, 5, 0);
        }
    }

    /** The END of the longest routine is PLACE 50, where there is no act to look at. */
    private static void fullRoutine() {
        int[][] full = new int[50][];
        java.util.Arrays.fill(full, a(Checks.OUT, 1));
        for (int mode = 0; mode < 3; mode++) {
            for (int[] places : acts(a(50, 3), a(3, 50))) {
                court(full, full);
                for (int place = 0; place <= 50; place++) {
                    pair(place, place, 0, 0, a(1, 1));
                }
                judged("fifty acts", 0, -1);
                pair(places[0], places[1], mode, 9);
                judged("one at its END", 3, 51);
            }
        }
    }
}
