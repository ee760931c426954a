/** The document's edges, sentence by sentence: PAIRS and claims made by hand (Terms 4, promises 19 to 23). */
public final class EdgeWitnessTest extends Edges {
    private static final int[] NONE = {0, 0, 0, 0, 0, 0, 0, 0};

    public static void main(String[] args) {
        begin("EdgeWitnessTest");
        numbered();
        twoHundred();
        behindPasses();
        places();
        modes();
        measures();
        allClaimsNone();
        claimBecomes();
        numberCounts();
        claimRefused();
        of();
        number();
        clear();
        c.finish();
    }

    private static void numbered() {
        c.says("A PAIR more, all its claims 0: its number.");
        x = new PassCourt();
        c.due("first", x.pair(1, 2, 0, 3), 0);
        c.due("second", x.pair(1, 2, 0, 3), 1);
        c.due("third", x.pair(4, 5, 2, 6), 2);
        c.pair("first", x, 0, a(1, 2, 0, 3), NONE);
        c.pair("second", x, 1, a(1, 2, 0, 3), NONE);
        c.pair("third", x, 2, a(4, 5, 2, 6), NONE);
        c.due("it asks for no routine", x.count(0), 0);
    }

    private static void twoHundred() {
        c.says("A WITNESS is a row of PAIRS, 200 at most, numbered from 0");
        x = new PassCourt();
        for (int i = 0; i < 200; i++) {
            c.due("pair", x.pair(i % 51, 50 - i % 51, i % 3, 5 * i), i);
        }
        for (int again = 0; again < 2; again++) {
            c.due("pair 201", x.pair(0, 0, 0, 0), -2);
            c.due("two hundred", x.count(1), 200);
        }
        c.pair("the last", x, 199, a(199 % 51, 50 - 199 % 51, 199 % 3, 995), NONE);
        c.due("none behind it", x.of(200, 0), -2);
        c.due("claim of the last", x.claim(199, 7, 2, 3), 0);
        c.due("claim of none", x.claim(200, 7, 2, 3), -2);
        c.due("number of the last", x.number(199, 7), 3);
        c.due("number of none", x.number(200, 7), 0);
        c.due("clear", x.clear(), 200);
        c.due("room again", x.pair(3, 3, 0, 0), 0);
    }

    private static void behindPasses() {
        c.says("A PAIR more, all its claims 0: its number.");
        only(times(50, PASS));
        x.pass(0, THREAD);
        for (int i = 101; i < 200; i++) {
            c.due("pair", x.pair(0, 0, 0, 0), i);
        }
        c.due("pair 201", x.pair(0, 0, 0, 0), -2);
        c.pair("behind those of THREAD", x, 101, a(0, 0, 0, 0), NONE);
        c.due("a full WITNESS is no hindrance for a PASS", x.pass(0, THREAD), 2);
        c.due("PAIRS", x.count(1), 101);
    }

    private static void places() {
        c.says("-2 when a place is not 0..50");
        x = new PassCourt();
        for (int place : a(LEAST, -1, 51, 52, MOST)) {
            c.due("first " + place, x.pair(place, 0, 0, 0), -2);
            c.due("second " + place, x.pair(0, place, 0, 0), -2);
        }
        c.due("no PAIR came of it", x.count(1), 0);
        c.due("50 and 0", x.pair(50, 0, 0, 0), 0);
        c.due("0 and 50", x.pair(0, 50, 0, 0), 1);
        c.due("first", x.of(0, 0), 50);
        c.due("second", x.of(1, 1), 50);
    }

    private static void modes() {
        c.says("the mode not 0..2");
        x = new PassCourt();
        for (int mode : a(LEAST, -1, 3, 4, MOST)) {
            c.due("mode " + mode, x.pair(0, 0, mode, 0), -2);
        }
        c.due("no PAIR came of it", x.count(1), 0);
        for (int mode = 0; mode <= 2; mode++) {
            c.due("mode " + mode, x.pair(0, 0, mode, 0), mode);
            c.due("mode", x.of(mode, 2), mode);
        }
    }

    private static void measures() {
        c.says("the measure not 0..1000, or there are 200.");
        x = new PassCourt();
        for (int measure : a(LEAST, -1, 1001, 1002, MOST)) {
            c.due("measure " + measure, x.pair(0, 0, 0, measure), -2);
        }
        c.due("no PAIR came of it", x.count(1), 0);
        c.due("measure 0", x.pair(0, 0, 0, 0), 0);
        c.due("measure 1000", x.pair(0, 0, 0, 1000), 1);
        c.due("measure", x.of(0, 3), 0);
        c.due("measure", x.of(1, 3), 1000);
    }

    private static void allClaimsNone() {
        c.says("A PAIR more, all its claims 0: its number.");
        only(a(PASS));
        for (int times = 0; times < 2; times++) {
            x.pass(0, times == 0 ? FOLD : PACK);
            x.clear();
            x.pair(0, 0, 0, 0);
            c.pair("in the room of another", x, 0, a(0, 0, 0, 0), NONE);
        }
        for (int r = 0; r < 8; r++) {
            x.claim(0, r, 2, 9);
        }
        x.clear();
        x.pair(0, 0, 0, 0);
        c.pair("in the room of another", x, 0, a(0, 0, 0, 0), NONE);
        for (int r = 0; r < 8; r++) {
            c.due("its numbers too", x.number(0, r), 0);
        }
    }

    private static void claimBecomes() {
        c.says("A claim of a PAIR becomes this; the number counts with claim 2 alone: what it was.");
        x = new PassCourt();
        x.pair(0, 0, 0, 0);
        x.pair(0, 0, 0, 0);
        for (int r = 0; r < 8; r++) {
            int was = 0;
            for (int claim : a(1, 2, 0, 2, 2, 1, 1, 0, 0)) {
                c.due("claim of " + r, x.claim(1, r, claim, 5), was);
                c.due("of", x.of(1, 4 + r), claim);
                was = claim;
            }
        }
        x.claim(1, 3, 2, 5);
        for (int r = 0; r < 8; r++) {
            c.due("claims of its neighbours", x.of(1, 4 + r), r == 3 ? 2 : 0);
            c.due("claims of the other PAIR", x.of(0, 4 + r), 0);
        }
    }

    private static void numberCounts() {
        c.says("the number counts with claim 2 alone");
        long[] longs = {Long.MIN_VALUE, -1, 0, 1, 1L << 32, Long.MAX_VALUE};
        for (long n : longs) {
            x = new PassCourt();
            x.pair(0, 0, 0, 0);
            x.claim(0, 7, 1, n);
            c.due("number of claim 1", x.number(0, 7), 0);
            x.claim(0, 7, 2, n);
            c.due("number of claim 2", x.number(0, 7), n);
            x.claim(0, 7, 0, n);
            c.due("number of claim 0", x.number(0, 7), 0);
            x.claim(0, 7, 2, 4);
            x.claim(0, 7, 2, n);
            c.due("number of another claim 2", x.number(0, 7), n);
        }
        // Neither does it count before the judge.
        court(acts(), acts());
        x.pair(0, 0, 0, 0);
        x.claim(0, 1, 1, 99);
        x.claim(0, 2, 0, 99);
        taken("numbers of claims 0 and 1");
        x.claim(0, 1, 2, 99);
        judged("a number of claim 2", 2, 0);
        x.claim(0, 1, 1, 99);
        taken("claim 1 again");
    }

    private static void claimRefused() {
        c.says("-2 when there is no such PAIR or register, or the claim is not 0..2.");
        x = new PassCourt();
        c.due("no PAIR at all", x.claim(0, 0, 0, 0), -2);
        x.pair(0, 0, 0, 0);
        x.pair(0, 0, 0, 0);
        x.claim(1, 7, 2, 5);
        for (int pair : a(LEAST, -1, 2, 199, 200, MOST)) {
            c.due("PAIR " + pair, x.claim(pair, 0, 1, 6), -2);
        }
        for (int register : a(LEAST, -1, 8, 9, MOST)) {
            c.due("register " + register, x.claim(0, register, 1, 6), -2);
            c.due("register " + register, x.claim(1, register, 1, 6), -2);
        }
        for (int claim : a(LEAST, -1, 3, 4, MOST)) {
            c.due("claim " + claim, x.claim(1, 7, claim, 6), -2);
        }
        c.pair("first", x, 0, a(0, 0, 0, 0), NONE);
        c.pair("second", x, 1, a(0, 0, 0, 0), 0, 0, 0, 0, 0, 0, 0, 2);
        c.due("number", x.number(1, 7), 5);
    }

    private static void of() {
        c.says("Of a PAIR: 0 the first PLACE, 1 the second, 2 the MODE, 3 the MEASURE, 4 to 11 the claim of register 0 to 7. "
                + "-2 when there is no such PAIR or what.");
        x = new PassCourt();
        c.due("no PAIR at all", x.of(0, 0), -2);
        x.pair(10, 20, 2, 30);
        x.pair(11, 21, 1, 31);
        x.claim(0, 0, 1, 0);
        x.claim(0, 7, 2, 40);
        int[] due = {10, 20, 2, 30, 1, 0, 0, 0, 0, 0, 0, 2};
        for (int what = 0; what < 12; what++) {
            c.due("what " + what, x.of(0, what), due[what]);
        }
        for (int what : a(LEAST, -1, 12, 13, MOST)) {
            c.due("what " + what, x.of(0, what), -2);
            c.due("what " + what, x.of(1, what), -2);
        }
        for (int pair : a(LEAST, -1, 2, 200, MOST)) {
            for (int what : a(0, 1, 2, 3, 4, 11)) {
                c.due("PAIR " + pair, x.of(pair, what), -2);
            }
        }
    }

    private static void number() {
        c.says("The number that claim 2 of a PAIR tells of a register; 0 when there is no such claim.");
        x = new PassCourt();
        c.due("no PAIR at all", x.number(0, 0), 0);
        x.pair(0, 0, 0, 0);
        x.pair(0, 0, 0, 0);
        for (int r = 0; r < 8; r++) {
            x.claim(0, r, 2, 60 + r);
            x.claim(1, r, 2, 80 + r);
        }
        for (int r = 0; r < 8; r++) {
            c.due("number", x.number(0, r), 60 + r);
            c.due("number", x.number(1, r), 80 + r);
        }
        for (int register : a(LEAST, -1, 8, 9, MOST)) {
            c.due("register " + register, x.number(0, register), 0);
            c.due("register " + register, x.number(1, register), 0);
        }
        for (int pair : a(LEAST, -1, 2, 200, MOST)) {
            c.due("PAIR " + pair, x.number(pair, 0), 0);
        }
    }

    private static void clear() {
        c.says("The WITNESS is empty: how many PAIRS it had.");
        x = new PassCourt();
        c.due("none", x.clear(), 0);
        x.pair(0, 0, 0, 0);
        x.pair(1, 1, 0, 0);
        x.claim(0, 0, 2, 9);
        c.due("two", x.clear(), 2);
        c.due("none", x.clear(), 0);
        c.due("none", x.count(1), 0);
        c.due("of", x.of(0, 0), -2);
        c.due("number", x.number(0, 0), 0);
        c.due("claim", x.claim(0, 0, 1, 0), -2);
        make(a(HALT));
        x.pass(0, DROP);
        c.due("those of a PASS", x.clear(), 2);
        c.due("judge", x.judge(0, 1), 1);
    }
}
