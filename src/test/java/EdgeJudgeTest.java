/** The document's edges, sentence by sentence: JUDGING (Terms 5, promises 24 and 25). */
public final class EdgeJudgeTest extends Edges {
    private static final int[][] ALWAYS_QUIET = {a(PASS), a(SET, 1, 5), a(MOVE, 1, 2), a(ADD, 1, 2, 3), a(SUB, 1, 2, 3),
            a(MUL, 1, 2, 3), a(LESS, 1, 2, 3), a(ALIKE, 1, 2, 3), a(JUMP, 0, 1), a(HALT)};

    public static void main(String[] args) {
        begin("EdgeJudgeTest");
        refused();
        where();
        knowsNothingOfPasses();
        byTheirNumbers();
        noFirstPair();
        soAsARunBegins();
        beyondTheEnd();
        knownInBoth();
        quietActs();
        quietDivisions();
        quietIfs();
        neverQuiet();
        oneAlone();
        lesserMeasure();
        bothAtEnd();
        bothQuiet();
        notTogether();
        outs();
        divisionsTogether();
        readsTogether();
        ifsTogether();
        oneOfThemQuiet();
        stopInBoth();
        waysOn();
        whatIsAhead();
        whatIsMoved();
        whatIsMade();
        whatIsReckoned();
        claimsFollow();
        firstPairCounts();
        firstFaultOfOnePair();
        firstWayAhead();
        fullWitness();
        c.finish();
    }

    private static int[][] none() {
        return acts();
    }

    private static void refused() {
        c.says("0 it is taken; else the FAULT. -2 when one of them is no routine.");
        court(none(), none());
        x.pair(0, 0, 0, 0);
        for (int routine : a(LEAST, -1, 2, 40, MOST)) {
            c.due("first " + routine, x.judge(routine, 0), -2);
            c.due("second " + routine, x.judge(0, routine), -2);
            c.due("both " + routine, x.judge(routine, routine), -2);
        }
        taken("two routines");
        c.due("one and itself", x.judge(1, 1), 0);
        c.due("no routine at all", new PassCourt().judge(0, 0), -2);
    }

    private static void where() {
        c.says("The PAIR at which the latest judge() told a FAULT: its number (0 with FAULT 1); -1 when it told none, or was refused, and before the first one.");
        court(acts(a(PASS)), acts(a(PASS)));
        c.due("before the first one", x.where(), -1);
        judged("FAULT 1", 1, 0);
        c.due("refused", x.judge(0, 2), -2);
        c.due("where of a refused one", x.where(), -1);
        x.pair(1, 1, 0, 0);
        x.pair(0, 0, 0, 0);
        taken("none");
        x.pair(0, 1, 0, 0);
        judged("the third", 3, 2);
        x.clear();
        x.pass(0, DROP);
        x.run(0, 5);
        c.due("of the latest judge()", x.where(), 2);
        c.due("refused", x.judge(-1, 0), -2);
        c.due("where of a refused one", x.where(), -1);
        x.clear();
        x.pair(1, 1, 0, 0);
        judged("FAULT 1 with other PAIRS", 1, 0);
        c.due("refused before the first one", refusedFirst().where(), -1);
    }

    private static PassCourt refusedFirst() {
        PassCourt fresh = new PassCourt();
        fresh.judge(0, 0);
        return fresh;
    }

    private static void knowsNothingOfPasses() {
        c.says("The judge, of routines a and b and the WITNESS");
        court(acts(a(OUT, 1)), acts(a(OUT, 1)));
        x.pass(0, FOLD);
        taken("a routine that no PASS made");
        c.due("the other way about", x.judge(1, 0), 0);
        court(acts(a(PASS), a(OUT, 1)), none());
        x.pass(0, PACK);
        c.due("as made", x.judge(0, 2), 0);
        c.due("the other way about", x.judge(2, 0), 3);
        c.due("another one", x.judge(0, 1), 3);
        c.due("where", x.where(), 1);
    }

    private static void byTheirNumbers() {
        c.says("goes over the PAIRS by their numbers; the first that is at fault is told.");
        court(acts(a(PASS), a(OUT, 1)), acts(a(PASS), a(OUT, 2)));
        x.pair(2, 1, 0, 0);
        x.pair(1, 1, 0, 0);
        x.pair(0, 0, 0, 0);
        judged("one to which nothing leads", 3, 0);
        court(acts(a(PASS), a(OUT, 1)), acts(a(PASS), a(OUT, 2)));
        x.pair(2, 2, 0, 0);
        x.pair(1, 1, 0, 0);
        x.pair(0, 0, 0, 0);
        x.pair(1, 2, 0, 0);
        judged("the second of them", 4, 1);
        court(acts(a(PASS)), acts(a(PASS)));
        x.pair(0, 0, 0, 0);
        x.pair(1, 1, 0, 0);
        x.pair(1, 0, 0, 0);
        judged("the last of them", 3, 2);
    }

    private static void noFirstPair() {
        c.says("Ahead of that: there must be a PAIR of 0 and 0");
        court(acts(a(PASS), a(PASS)), acts(a(PASS), a(PASS)));
        judged("an empty WITNESS", 1, 0);
        x.pair(1, 0, 0, 0);
        x.pair(0, 1, 0, 0);
        x.pair(2, 2, 0, 0);
        judged("ahead of what is at fault", 1, 0);
        x.clear();
        x.pair(0, 0, 1, 5);
        judged("a PAIR of another MODE", 5, 0);
    }

    private static void soAsARunBegins() {
        c.says("of which what it claims is so as a RUN begins.");
        for (int r = 0; r < 8; r++) {
            court(none(), none());
            x.pair(0, 0, 0, 0);
            for (long number : new long[] {1, -1, Long.MIN_VALUE, Long.MAX_VALUE, 1L << 32}) {
                x.claim(0, r, 2, number);
                judged("register " + r + " is " + number, 2, 0);
            }
            x.claim(0, r, 2, 0);
            taken("register " + r + " is 0");
            x.claim(0, r, 1, 0);
            taken("register " + r + " is the same");
        }
        court(acts(a(PASS)), acts(a(PASS)));
        pair(1, 0, 0, 0);
        pair(0, 0, 0, 0, is(7, 1));
        judged("ahead of a PAIR at fault with a lesser number", 2, 1);
        court(acts(a(SET, 1, 4)), acts(a(SET, 1, 4)));
        pair(1, 1, 0, 0, is(1, 4));
        pair(0, 0, 0, 0);
        taken("other PAIRS need not be so at first");
    }

    private static void beyondTheEnd() {
        c.says("PLACES beyond its END are a routine's END.");
        court(acts(a(JUMP, 0, 50)), acts(a(JUMP, 0, 1)));
        pair(0, 0, 0, 0);
        pair(50, 2, 0, 0);
        taken("both beyond");
        c.due("as it was told", x.of(1, 0), 50);
        c.due("as it was told", x.of(1, 1), 2);
        court(acts(a(PASS)), none());
        pair(0, 9, 1, 1);
        pair(7, 50, 0, 0);
        taken("the END of an empty one is its PLACE 0");
        court(none(), none());
        pair(50, 50, 0, 0);
        taken("both empty");
        court(acts(a(PASS)), acts(a(PASS)));
        pair(0, 0, 0, 0);
        pair(50, 50, 0, 0, same(1));
        pair(1, 1, 0, 0);
        judged("of two PAIRS of the ENDS the first counts", 7, 0);
        court(acts(a(PASS)), acts(a(PASS)));
        pair(0, 0, 0, 0);
        pair(2, 2, 1, 9);
        judged("MODE 1 beyond the END", 3, 1);
        court(times(50, PASS), acts(a(JUMP, 0, 0)));
        pair(0, 0, 0, 0);
        pair(50, 0, 0, 0);
        judged("50 is a full routine's END", 5, 0);
        c.due("as one and itself", x.judge(0, 0), 5);
    }

    private static void knownInBoth() {
        c.says("Of each PAIR both are looked at as being at its PLACES with what it claims: "
                + "a register claimed with a number is known there, in both.");
        court(acts(a(OUT, 1)), acts(a(OUT, 2)));
        pair(0, 0, 0, 0, is(1, 0), is(2, 0));
        pair(1, 1, 0, 0);
        taken("one number in two registers");
        court(acts(a(IF, 1, 2), a(OUT, 3)), acts(a(PASS), a(OUT, 3)));
        pair(0, 0, 0, 0, is(1, 0), same(3));
        pair(1, 1, 0, 0, same(3));
        pair(2, 2, 0, 0);
        taken("an IF of it is QUIET in the first");
        court(acts(a(PASS), a(OUT, 3)), acts(a(IF, 1, 2), a(OUT, 3)));
        pair(0, 0, 0, 0, is(1, 0), same(3));
        pair(1, 1, 0, 0, same(3));
        pair(2, 2, 0, 0);
        taken("and in the second");
    }

    /** An act of one routine alone, the other having none; ahead of it registers are SET in both. */
    private static void alone(String what, int[] act, int[][] set, int[][] claims, int fault) {
        for (int mode = 1; mode <= 2; mode++) {
            int[][] longer = join(set, act);
            court(mode == 1 ? longer : set, mode == 1 ? set : longer);
            for (int place = 0; place < set.length; place++) {
                pair(place, place, 0, 0, place == 0 ? none() : acts(is(set[0][1], set[0][2])));
            }
            pair(set.length, set.length, mode, 1, claims);
            int pair = x.count(1) - 1;
            pair(set.length + 2 - mode, set.length + mode - 1, 0, 0);
            judged(what + " alone, MODE " + mode, fault, fault == 0 ? -1 : pair);
        }
    }

    private static void quietActs() {
        c.says("QUIET is an act 0 to 5, 8, 9, 12, 14");
        for (int[] act : ALWAYS_QUIET) {
            alone("KIND " + act[0], act, none(), none(), 0);
        }
    }

    private static void quietDivisions() {
        c.says("DIV or REM by a register known as another number than 0");
        for (int kind : a(DIV, REM)) {
            int[] act = a(kind, 1, 2, 3);
            for (int number : a(1, -1, MOST, LEAST)) {
                alone("known", act, acts(a(SET, 3, number)), acts(is(3, number)), 0);
                alone("known to be the same", act, acts(a(SET, 3, number)), acts(same(3)), 3);
                alone("not known", act, acts(a(SET, 3, number)), none(), 3);
            }
            alone("known as 0", act, none(), acts(is(3, 0)), 3);
            alone("all known as 0", act, none(), acts(is(2, 0), is(3, 0)), 3);
            alone("y known, z not", act, none(), acts(is(2, 0), same(3)), 3);
        }
    }

    private static void quietIfs() {
        c.says("IF of a known register.");
        alone("known as 0", a(IF, 1, 50), none(), acts(is(1, 0)), 0);
        alone("known as another", a(IF, 1, 50), acts(a(SET, 1, 3)), acts(is(1, 3)), 0);
        alone("known to be the same", a(IF, 1, 50), none(), acts(same(1)), 3);
        alone("not known", a(IF, 1, 50), none(), none(), 3);
        for (int number : a(0, 1, -1, LEAST)) {
            court(acts(a(SET, 1, number), a(IF, 1, 3), a(PASS)), acts(a(SET, 1, number)));
            pair(0, 0, 0, 0);
            pair(1, 1, 1, 1, is(1, number));
            judged("a way must be there", 5, 1);
            pair(3, 1, 0, 0);
            judged("to y with " + number, number == 0 ? 5 : 0, number == 0 ? 1 : -1);
            x.clear();
            pair(0, 0, 0, 0);
            pair(1, 1, 1, 2, is(1, number));
            pair(2, 1, 1, 1);
            pair(4, 1, 0, 0);
            taken("both ways are there"); // the one to y is the END, the one to the next comes to it
        }
    }

    private static void neverQuiet() {
        c.says("MODE 1 (2): the first (the second) must be at a QUIET act (not at its END)");
        alone("OUT", a(OUT, 1), none(), acts(is(1, 0)), 3);
        alone("OUT", a(OUT, 1), none(), acts(same(1)), 3);
        alone("READ", a(READ, 1, 2), none(), acts(is(2, 0)), 3);
        alone("READ", a(READ, 1, 2), none(), acts(same(2)), 3);
        alone("READ below 0", a(READ, 1, 2), acts(a(SET, 2, -1)), acts(is(2, -1)), 3);
        for (int mode = 1; mode <= 2; mode++) {
            court(none(), none());
            pair(0, 0, mode, 1);
            judged("both at the END", 3, 0);
            court(mode == 1 ? none() : acts(a(PASS)), mode == 1 ? acts(a(PASS)) : none());
            pair(0, 0, mode, 1);
            pair(0, 1, 0, 0);
            pair(1, 0, 0, 0);
            judged("the other one is at an act", 3, 0);
        }
    }

    private static void oneAlone() {
        c.says("it does it, the other nothing.");
        court(acts(a(PASS), a(OUT, 1)), acts(a(OUT, 1)));
        pair(0, 0, 1, 1, same(1));
        pair(1, 0, 0, 0, same(1));
        pair(2, 1, 0, 0);
        taken("the other is at an OUT");
        court(acts(a(OUT, 1)), acts(a(PASS), a(OUT, 1)));
        pair(0, 0, 2, 1, same(1));
        pair(0, 1, 0, 0, same(1));
        pair(1, 2, 0, 0);
        taken("the first is at an OUT");
        court(acts(a(SET, 1, 5)), acts(a(SET, 1, 5)));
        pair(0, 0, 1, 1, same(1), same(2));
        pair(1, 0, 0, 0, same(1), same(2));
        judged("what it makes is its own", 7, 0);
        court(acts(a(SET, 1, 5)), acts(a(SET, 1, 5)));
        pair(0, 0, 1, 2, same(2));
        pair(1, 0, 2, 1, same(2));
        pair(1, 1, 0, 0, same(2));
        taken("one behind the other");
        court(acts(a(SET, 1, 0), a(OUT, 1)), acts(a(OUT, 1)));
        pair(0, 0, 1, 1, is(1, 0));
        pair(1, 0, 0, 0, is(1, 0));
        pair(2, 1, 0, 0);
        taken("what it makes is what the other has");
    }

    private static void lesserMeasure() {
        c.says("There must be a PAIR of the PLACES then, with a lesser MEASURE, whose claims FOLLOW.");
        int[][] measures = {a(1, 0, 0), a(1000, 999, 0), a(1000, 0, 0), a(0, 0, 6), a(5, 5, 6), a(5, 6, 6), a(1000, 1000, 6),
                a(0, 1000, 6)};
        for (int[] m : measures) {
            court(acts(a(PASS)), none());
            pair(0, 0, 1, m[0]);
            pair(1, 0, 0, m[1]);
            judged(m[0] + " and " + m[1], m[2], m[2] == 0 ? -1 : 0);
            court(none(), acts(a(PASS)));
            pair(0, 0, 2, m[0]);
            pair(0, 1, 0, m[1]);
            judged(m[0] + " and " + m[1], m[2], m[2] == 0 ? -1 : 0);
        }
        court(acts(a(JUMP, 0, 0)), none());
        pair(0, 0, 1, 1000);
        judged("one that never ends", 6, 0);
        court(acts(a(JUMP, 0, 0)), acts(a(JUMP, 0, 0)));
        pair(0, 0, 0, 0);
        taken("MODE 0 asks for no lesser one");
        court(acts(a(PASS)), acts(a(PASS)));
        pair(0, 0, 0, 0);
        pair(1, 1, 0, 1000);
        taken("MODE 0 asks for no lesser one");
        court(acts(a(OUT, 1)), acts(a(OUT, 1)));
        pair(0, 0, 0, 0, same(1));
        pair(1, 1, 0, 1000);
        taken("nor behind an OUT");
    }

    private static void bothAtEnd() {
        c.says("MODE 0: both at their END: well.");
        court(acts(a(SET, 1, 5)), acts(a(SET, 1, 5)));
        pair(0, 0, 0, 0);
        pair(1, 1, 0, 0, is(1, 5));
        taken("with claims");
        court(acts(a(PASS)), none());
        pair(0, 0, 0, 0);
        pair(1, 0, 0, 0);
        judged("the second alone", 3, 0);
        court(none(), acts(a(PASS)));
        pair(0, 0, 0, 0);
        pair(0, 1, 0, 0);
        judged("the first alone", 3, 0);
        for (int[] act : acts(a(OUT, 1), a(READ, 1, 2), a(DIV, 1, 2, 3), a(IF, 1, 0), a(HALT), a(JUMP, 0, 50))) {
            court(acts(act), none());
            pair(0, 0, 0, 0, same(1), same(2), same(3));
            judged("KIND " + act[0] + " and the END", 3, 0);
            court(none(), acts(act));
            pair(0, 0, 0, 0, same(1), same(2), same(3));
            judged("the END and KIND " + act[0], 3, 0);
        }
    }

    private static void bothQuiet() {
        c.says("Both at QUIET acts: both do them; there must be a PAIR of the PLACES then, whose claims FOLLOW.");
        for (int[] one : ALWAYS_QUIET) {
            for (int[] other : ALWAYS_QUIET) {
                court(acts(one), acts(other));
                pair(0, 0, 0, 0, same(4));
                judged("no PAIR behind", 5, 0);
                pair(1, 1, 0, 0, same(4));
                taken("KIND " + one[0] + " and " + other[0]);
            }
        }
        court(acts(a(JUMP, 0, 2), a(OUT, 1)), acts(a(HALT), a(OUT, 1), a(OUT, 1)));
        pair(0, 0, 0, 0);
        pair(1, 1, 0, 0, same(1));
        judged("each goes its own way", 5, 0);
        pair(2, 3, 0, 0);
        pair(2, 2, 0, 0, same(1));
        judged("no PAIR behind the OUT but one at fault", 3, 3);
    }

    private static void notTogether() {
        c.says("3 the acts do not go together (or a MODE 1, 2 at what is not QUIET)");
        int[][] loud = {a(OUT, 1), a(READ, 1, 1), a(DIV, 1, 1, 1), a(REM, 1, 1, 1), a(IF, 1, 1)};
        for (int[] one : loud) {
            for (int[] other : loud) {
                court(acts(one), acts(other));
                pair(0, 0, 0, 0, same(1));
                pair(1, 1, 0, 0);
                boolean together = one[0] == other[0];
                judged("KIND " + one[0] + " and " + other[0], together ? 0 : 3, together ? -1 : 0);
            }
            for (int[] other : ALWAYS_QUIET) {
                court(acts(one), acts(other));
                pair(0, 0, 0, 0, same(1));
                pair(1, 1, 0, 0);
                judged("KIND " + one[0] + " and QUIET " + other[0], 3, 0);
                court(acts(other), acts(one));
                pair(0, 0, 0, 0, same(1));
                pair(1, 1, 0, 0);
                judged("QUIET " + other[0] + " and KIND " + one[0], 3, 0);
            }
        }
        court(acts(a(DIV, 1, 2, 3)), acts(a(REM, 1, 2, 3)));
        pair(0, 0, 0, 0, is(2, 0), is(3, 0));
        judged("DIV and REM, both by 0", 3, 0);
    }

    /** Two acts at PLACE 0 with claims, a PAIR of the ENDS without: whether what they ask for is the SAME. */
    private static void asked(String what, int[] one, int[] other, boolean same, int[]... claims) {
        court(acts(one), acts(other));
        pair(0, 0, 0, 0, claims);
        pair(1, 1, 0, 0);
        judged(what, same ? 0 : 4, same ? -1 : 0);
    }

    private static void outs() {
        c.says("Both at OUT: what they give out must be the SAME");
        for (int r = 0; r < 8; r++) {
            asked("no claim", a(OUT, r), a(OUT, r), false);
            asked("claim 1", a(OUT, r), a(OUT, r), true, same(r));
            asked("claim 2", a(OUT, r), a(OUT, r), true, is(r, 0));
        }
        asked("two registers", a(OUT, 1), a(OUT, 2), false, same(1), same(2));
        asked("a number and not", a(OUT, 1), a(OUT, 2), false, is(1, 0), same(2));
        asked("not and a number", a(OUT, 1), a(OUT, 2), false, same(1), is(2, 0));
        court(acts(a(SET, 1, 3), a(OUT, 1)), acts(a(SET, 1, 3), a(OUT, 2)));
        pair(0, 0, 0, 0, is(2, 0));
        pair(1, 1, 0, 0, is(1, 3), is(2, 0));
        pair(2, 2, 0, 0);
        judged("two numbers", 4, 1);
    }

    private static void divisionsTogether() {
        c.says("likewise DIV, REM, READ of one KIND: their y must be the SAME, and their z (but of READ)");
        for (int kind : a(DIV, REM)) {
            int[] act = a(kind, 1, 2, 3);
            asked("no claim", act, act, false);
            asked("y alone", act, act, false, same(2));
            asked("z alone", act, act, false, same(3));
            asked("y and z", act, act, true, same(2), same(3));
            asked("y known, z the same", act, act, true, is(2, 0), same(3));
            asked("another y", act, a(kind, 1, 4, 3), false, same(2), same(3), same(4));
            asked("another z", act, a(kind, 1, 2, 4), false, same(2), same(3), same(4));
            asked("y and z the other way about", act, a(kind, 1, 3, 2), false, same(2), same(3));
            asked("another x", act, a(kind, 4, 2, 3), true, same(2), same(3));
            asked("x is not asked for", act, act, true, same(2), same(3), is(1, 0));
        }
    }

    private static void readsTogether() {
        c.says("their y must be the SAME, and their z (but of READ)");
        asked("no claim", a(READ, 1, 2), a(READ, 1, 2), false);
        asked("claim 1", a(READ, 1, 2), a(READ, 1, 2), true, same(2));
        asked("claim 2", a(READ, 1, 2), a(READ, 1, 2), true, is(2, 0));
        asked("another y", a(READ, 1, 2), a(READ, 1, 3), false, same(2), same(3));
        asked("one number", a(READ, 1, 2), a(READ, 4, 3), true, is(2, 0), is(3, 0));
        asked("register 0, which is no z", a(READ, 1, 2), a(READ, 1, 2), true, same(2), a(0, 0));
    }

    private static void ifsTogether() {
        c.says("both at IF: their x must be the SAME.");
        asked("no claim", a(IF, 1, 1), a(IF, 1, 1), false);
        asked("claim 1", a(IF, 1, 1), a(IF, 1, 1), true, same(1));
        asked("another x", a(IF, 1, 1), a(IF, 2, 1), false, same(1), same(2));
    }

    private static void oneOfThemQuiet() {
        c.says("4 what must be the SAME is not");
        asked("IF known and IF not", a(IF, 1, 1), a(IF, 2, 1), false, is(1, 0), same(2));
        asked("IF not and IF known", a(IF, 2, 1), a(IF, 1, 1), false, is(1, 0), same(2));
        for (int kind : a(DIV, REM)) {
            for (int turn = 0; turn < 2; turn++) {
                int[] one = a(kind, 1, 2, turn == 0 ? 3 : 4);
                int[] other = a(kind, 1, 2, turn == 0 ? 4 : 3);
                court(acts(a(SET, 3, 7), one), acts(a(SET, 3, 7), other));
                pair(0, 0, 0, 0, same(2), is(4, 0));
                pair(1, 1, 0, 0, same(2), is(3, 7), same(4));
                pair(2, 2, 0, 0);
                judged("by 7 and by what is not known", 4, 1);
                x.claim(1, 4, 2, 0);
                judged("by 7 and by 0", 4, 1);
            }
        }
    }

    private static void stopInBoth() {
        c.says("Then, if DIV or REM are by a register known as 0, or READ is by one known as below 0, in both: well.");
        for (int kind : a(DIV, REM)) {
            court(acts(a(kind, 1, 2, 3), a(OUT, 1)), acts(a(kind, 4, 5, 6), a(OUT, 2)));
            pair(0, 0, 0, 0, is(2, 0), is(5, 0), is(3, 0), is(6, 0));
            taken("no PAIR behind it");
            x.claim(0, 5, 1, 0);
            judged("their y is not the SAME", 4, 0);
            x.claim(0, 5, 2, 0);
            x.claim(0, 3, 1, 0);
            judged("one by what is not known", 4, 0);
            court(acts(a(kind, 1, 2, 3)), acts(a(kind, 1, 2, 3)));
            pair(0, 0, 0, 0, same(2), same(3));
            judged("by what is the same, but not known", 5, 0);
        }
        for (int number : a(-1, LEAST, 0, 1, 16, MOST)) {
            court(acts(a(SET, 2, number), a(READ, 1, 2)), acts(a(SET, 2, number), a(READ, 3, 2)));
            pair(0, 0, 0, 0);
            pair(1, 1, 0, 0, is(2, number));
            judged("READ by " + number, number < 0 ? 0 : 5, number < 0 ? -1 : 1);
            pair(2, 2, 0, 0);
            taken("with a PAIR behind it");
        }
    }

    private static void waysOn() {
        c.says("Else there must be, for each way on of both (the one to the next, then the one to y), "
                + "a PAIR of the PLACES then, whose claims FOLLOW.");
        int[][] loud = {a(OUT, 1), a(READ, 1, 1), a(DIV, 1, 1, 1), a(REM, 1, 1, 1)};
        for (int[] act : loud) {
            court(acts(act, a(HALT)), acts(act, a(HALT)));
            pair(0, 0, 0, 0, same(1), same(2));
            judged("behind KIND " + act[0], 5, 0);
            pair(1, 1, 0, 0, same(1), same(2));
            judged("behind HALT", 5, 1);
            pair(2, 2, 0, 0);
            taken("KIND " + act[0]);
        }
        court(acts(a(IF, 1, 3), a(HALT), a(PASS), a(HALT)), acts(a(IF, 1, 2), a(HALT), a(HALT)));
        pair(0, 0, 0, 0, same(1));
        pair(4, 3, 0, 0);
        judged("neither way", 5, 0);
        pair(3, 2, 0, 0);
        judged("the one to y alone", 5, 0);
        pair(1, 1, 0, 0);
        taken("each to its own y");
        x.clear();
        pair(0, 0, 0, 0, same(1));
        pair(4, 3, 0, 0);
        pair(1, 1, 0, 0);
        judged("the one to the next alone", 5, 0);
        court(acts(a(IF, 1, 50)), acts(a(IF, 1, 7)));
        pair(0, 0, 0, 0, same(1));
        pair(1, 1, 0, 0, same(1));
        taken("both ways to the END");
    }

    /** Two acts at PLACE 0, claims ahead of them: whether one claim behind them follows. */
    private static void follows(String what, int[] one, int[] other, int[][] ahead, int[] behind, boolean does) {
        court(acts(one), acts(other));
        pair(0, 0, 0, 0, ahead);
        pair(1, 1, 0, 0, behind);
        judged(what, does ? 0 : 7, does ? -1 : 0);
    }

    private static void whatIsAhead() {
        c.says("else what was in it ahead of the act, one and the same thing in both if claim 1 is made of it, else a thing of its own");
        for (int r = 0; r < 8; r++) {
            follows("claim 1", a(PASS), a(PASS), acts(same(r)), same(r), true);
            follows("no claim", a(PASS), a(PASS), none(), same(r), false);
            follows("claims of all the others", a(PASS), a(PASS), acts(same((r + 1) % 8), same((r + 7) % 8)), same(r), false);
            follows("claim 2", a(PASS), a(PASS), acts(is(r, 0)), same(r), true);
            follows("claim 2 of it", a(PASS), a(PASS), acts(is(r, 0)), is(r, 0), true);
            follows("another number", a(PASS), a(PASS), acts(is(r, 0)), is(r, 1), false);
            follows("a number of what is the same", a(PASS), a(PASS), acts(same(r)), is(r, 0), false);
            follows("a number of what is not claimed", a(PASS), a(PASS), none(), is(r, 0), false);
            follows("no claim needs nothing", a(PASS), a(PASS), none(), a(r, 0), true);
        }
        follows("behind an OUT", a(OUT, 1), a(OUT, 1), acts(same(1), same(2)), same(2), true);
        follows("behind a READ of another", a(READ, 1, 2), a(READ, 1, 2), acts(same(2), same(3)), same(3), true);
        follows("behind an IF", a(IF, 1, 1), a(IF, 1, 1), acts(same(1)), is(1, 0), false);
    }

    private static void whatIsMoved() {
        c.says("behind a MOVE what was in y");
        follows("one thing", a(MOVE, 1, 2), a(MOVE, 1, 2), acts(same(2)), same(1), true);
        follows("two things", a(MOVE, 1, 2), a(MOVE, 1, 3), acts(same(2), same(3)), same(1), false);
        follows("a thing of its own", a(MOVE, 1, 2), a(MOVE, 1, 2), acts(same(1)), same(1), false);
        follows("a number", a(MOVE, 1, 2), a(SET, 1, 0), acts(is(2, 0)), is(1, 0), true);
        follows("y is as ahead", a(MOVE, 1, 2), a(PASS), acts(same(2)), same(2), true);
        follows("to itself", a(MOVE, 1, 1), a(PASS), acts(same(1)), same(1), true);
        follows("onto one alone", a(MOVE, 1, 2), a(PASS), acts(same(1), same(2)), same(1), false);
        follows("SET in both", a(SET, 1, LEAST), a(SET, 1, LEAST), none(), same(1), true);
        follows("SET to two", a(SET, 1, 3), a(SET, 1, 4), none(), same(1), false);
        follows("SET in one", a(SET, 1, 3), a(PASS), acts(same(1)), same(1), false);
    }

    private static void whatIsMade() {
        c.says("else the thing that comes of the KIND and of what was in y and z (in y) in this order: the same in both, if these are.");
        int[][] claims = {same(2), same(3), same(4)};
        for (int kind = ADD; kind <= ALIKE; kind++) {
            int[] act = a(kind, 1, 2, 3);
            follows("KIND " + kind, act, act, claims, same(1), true);
            follows("no number", act, act, claims, is(1, 0), false);
            follows("x is as ahead elsewhere", act, act, claims, same(4), true);
            if (kind != DIV && kind != REM) {
                follows("the other order", act, a(kind, 1, 3, 2), claims, same(1), false);
                follows("another z", act, a(kind, 1, 2, 4), claims, same(1), false);
                follows("another y", act, a(kind, 1, 4, 3), claims, same(1), false);
                follows("z of its own", a(kind, 1, 2, 5), a(kind, 1, 2, 5), claims, same(1), false);
                follows("y of its own", a(kind, 1, 5, 2), a(kind, 1, 5, 2), claims, same(1), false);
                follows("into another x", act, a(kind, 4, 2, 3), acts(same(1), same(2), same(3)), same(1), false);
                follows("onto what is asked for", a(kind, 2, 2, 3), a(kind, 2, 2, 3), claims, same(2), true);
                follows("in one alone", act, a(PASS), acts(same(1), same(2), same(3)), same(1), false);
                for (int other = ADD; other <= ALIKE; other++) {
                    if (other != kind && other != DIV && other != REM) {
                        follows("another KIND", act, a(other, 1, 2, 3), claims, same(1), false);
                    }
                }
            }
        }
        follows("READ", a(READ, 1, 2), a(READ, 1, 2), claims, same(1), true);
        follows("READ by a number", a(READ, 1, 2), a(READ, 1, 3), acts(is(2, 0), is(3, 0)), same(1), true);
        follows("READ is no number", a(READ, 1, 2), a(READ, 1, 2), acts(is(2, 0)), is(1, 0), false);
        follows("READ into two", a(READ, 1, 2), a(READ, 3, 2), acts(same(1), same(2), same(3)), same(1), false);
        follows("READ of what it changes", a(READ, 2, 2), a(READ, 2, 2), claims, same(2), true);
    }

    private static void whatIsReckoned() {
        c.says("behind an act 3 to 10 the number, if y and z are known (not of READ; DIV and REM not by 0)");
        int[] due = {0, 0, 0, 12, 2, 35, 1, 2, 0, 0};
        for (int kind = ADD; kind <= ALIKE; kind++) {
            court(acts(a(SET, 2, 7), a(SET, 3, 5), a(kind, 1, 2, 3)), acts(a(SET, 2, 7), a(SET, 3, 5), a(SET, 1, due[kind])));
            pair(0, 0, 0, 0);
            pair(1, 1, 0, 0, is(2, 7));
            pair(2, 2, 0, 0, is(2, 7), is(3, 5));
            pair(3, 3, 0, 0, is(1, due[kind]));
            taken("KIND " + kind);
            x.claim(3, 1, 2, due[kind] + 1);
            judged("another number", 7, 2);
            x.claim(3, 1, 1, 0);
            taken("the same");
            x.claim(2, 2, 1, 0);
            judged("y not known", 7, 2);
            x.claim(2, 2, 2, 7);
            x.claim(2, 3, 1, 0);
            judged("z not known", kind == DIV || kind == REM ? 3 : 7, 2);
        }
        follows("0 times what is not known", a(MUL, 1, 2, 3), a(SET, 1, 0), acts(is(2, 0), same(3)), same(1), false);
        follows("a number and a thing", a(MUL, 1, 2, 3), a(MUL, 1, 2, 3), acts(is(2, 0), same(3)), same(1), true);
        follows("a thing and a number", a(MUL, 1, 3, 2), a(MUL, 1, 3, 2), acts(is(2, 0), same(3)), same(1), true);
        follows("two numbers by one thing", a(MUL, 1, 2, 3), a(MUL, 1, 4, 3), acts(is(2, 0), is(4, 0), same(3)), same(1), true);
        follows("wraps", a(SUB, 1, 2, 3), a(SET, 1, 0), acts(is(2, 0), is(3, 0)), is(1, 0), true);
        for (int kind : a(DIV, REM)) {
            court(acts(a(SET, 3, 7), a(kind, 1, 2, 3)), acts(a(SET, 3, 7), a(kind, 1, 2, 3)));
            pair(0, 0, 0, 0, same(2));
            pair(1, 1, 0, 0, same(2), is(3, 7));
            pair(2, 2, 0, 0, same(1));
            taken("a QUIET one of what is not known");
            x.claim(1, 2, 0, 0);
            judged("of what is not the same", 7, 1);
        }
        court(acts(a(SET, 3, 7), a(DIV, 1, 2, 3)), acts(a(SET, 3, 7), a(REM, 1, 2, 3)));
        pair(0, 0, 0, 0, same(2));
        pair(1, 1, 0, 0, same(2), is(3, 7));
        pair(2, 2, 0, 0, same(2), is(3, 7));
        taken("QUIET ones of two KINDS go together");
        x.claim(2, 1, 1, 0);
        judged("and make two things", 7, 1);
        wide();
    }

    /** Numbers beyond ints, which no SET can make. */
    private static void wide() {
        court(acts(a(SET, 2, LEAST), a(MUL, 1, 2, 2), a(MUL, 1, 1, 1), a(OUT, 1)),
                acts(a(SET, 2, LEAST), a(MUL, 1, 2, 2), a(SET, 1, 0), a(OUT, 1)));
        pair(0, 0, 0, 0);
        pair(1, 1, 0, 0, is(2, LEAST));
        pair(2, 2, 0, 0);
        x.claim(2, 1, 2, 1L << 62);
        pair(3, 3, 0, 0, is(1, 0));
        pair(4, 4, 0, 0);
        taken("2 to the 62nd, and its square, which wraps");
        x.claim(2, 1, 2, (1L << 62) + 1);
        judged("one more", 7, 1);
        x.claim(2, 1, 2, 0);
        judged("0", 7, 1);
    }

    private static void claimsFollow() {
        c.says("A claim 1 FOLLOWS if that register is the same in both behind the acts, a claim 2 if it is that number in both.");
        follows("claim 2 in the first alone", a(SET, 1, 4), a(PASS), acts(same(1)), is(1, 4), false);
        follows("claim 2 in the second alone", a(PASS), a(SET, 1, 4), acts(same(1)), is(1, 4), false);
        follows("claim 2 in both", a(SET, 1, 4), a(SET, 1, 4), none(), is(1, 4), true);
        follows("claim 2 of two numbers", a(SET, 1, 4), a(SET, 1, 5), none(), is(1, 4), false);
        follows("claim 2 of two numbers", a(SET, 1, 5), a(SET, 1, 4), none(), is(1, 4), false);
        follows("claim 1 of one number", a(SET, 1, 4), a(SET, 1, 4), none(), same(1), true);
        follows("no claim of what differs", a(SET, 1, 4), a(SET, 1, 5), none(), a(1, 0), true);
        court(acts(a(SET, 1, 4)), none());
        pair(0, 0, 1, 1, is(1, 0));
        pair(1, 0, 0, 0, is(1, 4));
        judged("MODE 1: the second has it not", 7, 0);
        court(none(), acts(a(SET, 1, 4)));
        pair(0, 0, 2, 1, is(1, 0));
        pair(0, 1, 0, 0, is(1, 4));
        judged("MODE 2: the first has it not", 7, 0);
    }

    private static void firstPairCounts() {
        c.says("When more than one PAIR has the PLACES that are looked for, the first of them counts.");
        court(acts(a(PASS)), acts(a(PASS)));
        pair(0, 0, 0, 0);
        pair(1, 1, 0, 0, same(1));
        pair(1, 1, 0, 0);
        judged("the first claims too much", 7, 0);
        court(acts(a(PASS)), acts(a(PASS)));
        pair(0, 0, 0, 0);
        pair(1, 1, 0, 0);
        pair(1, 1, 0, 0, same(1));
        taken("the second claims too much");
        court(acts(a(PASS)), none());
        pair(0, 0, 1, 5);
        pair(1, 0, 0, 5);
        pair(1, 0, 0, 4);
        judged("the MEASURE of the first", 6, 0);
        court(none(), none());
        pair(0, 0, 0, 0, is(1, 7));
        pair(0, 0, 0, 0);
        judged("the first of 0 and 0", 2, 0);
        court(none(), none());
        pair(0, 0, 0, 0);
        pair(0, 0, 0, 0, is(1, 7));
        taken("the second of 0 and 0 need not be so");
        court(acts(a(PASS)), acts(a(PASS)));
        pair(0, 0, 0, 0);
        pair(1, 1, 0, 0);
        pair(0, 0, 1, 0);
        judged("each of them is looked at", 5, 2);
    }

    private static void firstFaultOfOnePair() {
        c.says("of one PAIR the first of these, of two ways those of the first ahead of those of the second.");
        court(acts(a(OUT, 1)), acts(a(OUT, 2)));
        pair(0, 0, 0, 0);
        judged("4 ahead of 5", 4, 0);
        court(acts(a(OUT, 1)), acts(a(PASS)));
        pair(0, 0, 0, 0);
        judged("3 ahead of 5", 3, 0);
        court(acts(a(PASS)), none());
        pair(0, 0, 1, 0);
        judged("5 ahead of 6", 5, 0);
        pair(1, 0, 0, 0, same(1));
        judged("6 ahead of 7", 6, 0);
        court(acts(a(PASS)), acts(a(PASS)));
        pair(0, 0, 0, 0);
        pair(1, 1, 2, 0, same(1));
        judged("7 of the first PAIR ahead of 3 of the second", 7, 0);
    }

    private static void firstWayAhead() {
        c.says("of two ways those of the first ahead of those of the second.");
        court(acts(a(IF, 1, 2), a(HALT)), acts(a(IF, 1, 2), a(HALT)));
        pair(0, 0, 0, 0, same(1));
        pair(1, 1, 0, 0, same(2));
        judged("7 of the first ahead of 5 of the second", 7, 0);
        pair(2, 2, 0, 0, same(3));
        judged("7 of both", 7, 0);
        x.claim(1, 2, 0, 0);
        judged("7 of the second alone", 7, 0);
        x.claim(2, 3, 0, 0);
        taken("neither");
        x.clear();
        pair(0, 0, 0, 0, same(1));
        pair(2, 2, 0, 0, same(2));
        judged("5 of the first ahead of 7 of the second", 5, 0);
    }

    private static void fullWitness() {
        c.says("goes over the PAIRS by their numbers; the first that is at fault is told.");
        court(acts(a(PASS)), acts(a(PASS)));
        for (int i = 0; i < 198; i++) {
            x.pair(1, 1, 0, 0);
        }
        c.due("the last but one", x.pair(0, 0, 0, 0), 198);
        c.due("the last", x.pair(0, 1, 2, 0), 199);
        judged("the last of two hundred", 3, 199);
        court(times(50, OUT, 1), times(50, OUT, 1));
        for (int place = 0; place <= 50; place++) {
            pair(place, place, 0, 0, same(1));
        }
        taken("fifty acts");
        pair(50, 49, 0, 0);
        judged("the END of fifty and the last act", 3, 51);
        x.clear();
        pair(0, 0, 0, 0, same(1));
        pair(1, 1, 0, 0, same(1));
        pair(49, 50, 0, 0);
        judged("behind the second there is no PAIR", 5, 1);
        x.clear();
        pair(49, 50, 0, 0);
        pair(0, 0, 0, 0, same(1));
        judged("the last act and the END of fifty", 3, 0);
        x.clear();
        for (int place = 0; place <= 49; place++) {
            pair(place, place, 0, 0, same(1));
        }
        judged("without a PAIR of the ENDS", 5, 49);
    }
}
