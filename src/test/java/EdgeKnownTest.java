/** The document's edges, sentence by sentence: KNOWN and LIVE (Terms 2, promises 9 to 11). */
public final class EdgeKnownTest extends Edges {
    public static void main(String[] args) {
        begin("EdgeKnownTest");
        refusals();
        atFirst();
        endToo();
        notComeTo();
        ways();
        knownIf();
        unknownIf();
        divisions();
        readBelowZero();
        behindActs();
        madeOfOthers();
        joins();
        neverAgain();
        placeZeroAgain();
        goingOn();
        laterActs();
        oneRoutineBehindAnother();
        liveRefusals();
        liveAsked();
        liveMade();
        liveWays();
        liveLeast();
        c.finish();
    }

    private static void known(int place, int register, long number) {
        c.due("known(" + place + ", " + register + ")", x.known(0, place, register), 1);
        c.due("value(" + place + ", " + register + ")", x.value(0, place, register), number);
    }

    private static void unknown(int place, int register) {
        c.due("known(" + place + ", " + register + ")", x.known(0, place, register), 0);
        c.due("value(" + place + ", " + register + ")", x.value(0, place, register), 0);
    }

    private static void comeTo(int... places) {
        for (int place = 0; place <= x.length(0); place++) {
            boolean due = false;
            for (int p : places) {
                due = due || p == place;
            }
            for (int register = 0; register < 8; register++) {
                c.due("come to " + place, x.known(0, place, register) >= 0 ? 1 : 0, due ? 1 : 0);
                if (!due) {
                    c.due("not come to " + place, x.known(0, place, register), -1);
                    c.due("value there", x.value(0, place, register), 0);
                }
            }
        }
    }

    private static void refusals() {
        c.says("-2 when there is no such routine, PLACE or register.");
        only(a(SET, 1, 5), a(SET, 2, 6));
        for (int routine : a(LEAST, -1, 1, 40, MOST)) {
            c.due("routine " + routine, x.known(routine, 0, 0), -2);
            c.due("value of routine " + routine, x.value(routine, 1, 1), 0);
        }
        for (int place : a(LEAST, -1, 3, 50, 51, MOST)) {
            c.due("PLACE " + place, x.known(0, place, 0), -2);
            c.due("value at PLACE " + place, x.value(0, place, 1), 0);
        }
        for (int register : a(LEAST, -1, 8, 9, MOST)) {
            c.due("register " + register, x.known(0, 0, register), -2);
            c.due("value of register " + register, x.value(0, 2, register), 0);
        }
        int halt = make(a(HALT), a(PASS));
        c.due("no register, and not come to", x.known(halt, 1, 8), -2);
    }

    private static void atFirst() {
        c.says("At first PLACE 0 alone is COME TO, each register being known there as 0.");
        only();
        for (int register = 0; register < 8; register++) {
            known(0, register, 0);
        }
        only(a(JUMP, 0, 0), a(PASS));
        comeTo(0);
        for (int register = 0; register < 8; register++) {
            known(0, register, 0);
        }
    }

    private static void endToo() {
        c.says("A PLACE, the END too, to which a way leads is come to");
        only(join(times(49, PASS), a(SET, 7, 3)));
        known(49, 7, 0);
        known(50, 7, 3);
        c.due("beyond the END", x.known(0, 51, 7), -2);
        only(a(JUMP, 0, 50), a(PASS));
        comeTo(0, 2);
        known(2, 0, 0);
        only(a(HALT), a(PASS), a(PASS));
        comeTo(0, 3);
        only(a(SET, 1, 1), a(IF, 1, 50), a(PASS), a(JUMP, 0, 0));
        comeTo(0, 1, 4);
    }

    private static void notComeTo() {
        c.says("-1 when it is not come to.");
        only(a(JUMP, 0, 2), a(SET, 1, 5), a(JUMP, 0, 2), a(SET, 1, 6));
        comeTo(0, 2);
        c.says("As what it is known; 0 when known() is not 1.");
        c.due("behind a SET that is not come to", x.value(0, 2, 1), 0);
        c.due("at what is not come to", x.value(0, 1, 1), 0);
        c.due("at the END", x.value(0, 4, 1), 0);
    }

    private static void ways() {
        c.says("The WAYS on from a PLACE: to the next one (all but JUMP, HALT), to y (JUMP, IF), to the END (HALT).");
        for (int kind = 0; kind <= 14; kind++) {
            int[] act = {kind, 0, 0, 0};
            if (kind == JUMP || kind == IF) {
                act[2] = 4;
            }
            if (kind == DIV || kind == REM) {
                act = a(kind, 0, 0, 1);
            }
            only(a(READ, 0, 1), a(READ, 1, 1), act, a(HALT), a(JUMP, 0, 4), a(PASS));
            if (kind == JUMP) {
                comeTo(0, 1, 2, 4);
            } else if (kind == IF) {
                comeTo(0, 1, 2, 3, 4, 6);
            } else if (kind == HALT) {
                comeTo(0, 1, 2, 6);
            } else {
                comeTo(0, 1, 2, 3, 6);
            }
        }
    }

    private static void knownIf() {
        c.says("of an IF whose register is known only the way that it will go");
        only(a(IF, 1, 2), a(JUMP, 0, 1), a(PASS));
        comeTo(0, 1);
        for (int number : a(1, -1, MOST, LEAST)) {
            only(a(SET, 1, number), a(IF, 1, 3), a(PASS), a(JUMP, 0, 3));
            comeTo(0, 1, 3);
        }
        only(a(SET, 1, 65536), a(MUL, 1, 1, 1), a(IF, 1, 4), a(PASS), a(JUMP, 0, 4));
        comeTo(0, 1, 2, 4); // 2 to the 32nd is not 0
        only(a(SET, 1, 0), a(IF, 1, 50));
        comeTo(0, 1, 2);
        only(a(IF, 1, 0), a(PASS));
        comeTo(0, 1, 2);
        only(a(SET, 1, 1), a(IF, 1, 1), a(PASS));
        comeTo(0, 1);
    }

    private static void unknownIf() {
        c.says("From a PLACE that is come to each way on leads on, with what is known behind the act");
        only(a(READ, 1, 0), a(SET, 2, 4), a(IF, 1, 4), a(JUMP, 0, 3), a(JUMP, 0, 4));
        comeTo(0, 1, 2, 3, 4);
        known(3, 2, 4);
        known(4, 2, 4);
        unknown(3, 1);
        unknown(4, 1); // the way that an IF goes tells nothing of its register
    }

    private static void divisions() {
        c.says("of a DIV or REM by a register known as 0");
        for (int kind : a(DIV, REM)) {
            only(a(READ, 1, 0), a(SET, 2, 9), a(kind, 3, 2, 0), a(PASS));
            comeTo(0, 1, 2);
            only(a(READ, 1, 0), a(kind, 3, 1, 0), a(PASS));
            comeTo(0, 1); // what is divided need not be known
            only(a(READ, 1, 0), a(kind, 3, 2, 1), a(PASS));
            comeTo(0, 1, 2, 3);
            unknown(2, 3); // 0 by what is not known is not known
            only(a(SET, 1, -1), a(kind, 3, 2, 1), a(PASS));
            comeTo(0, 1, 2, 3);
            known(2, 3, 0);
            only(a(READ, 1, 0), a(SET, 2, 1), a(kind, 3, 1, 2), a(PASS));
            comeTo(0, 1, 2, 3, 4);
            unknown(3, 3);
        }
        only(a(SUB, 1, 1, 2), a(READ, 2, 0), a(DIV, 3, 0, 1), a(SET, 1, 1), a(JUMP, 0, 2));
        comeTo(0, 1, 2); // the only way that would bring another divisor is behind the STOP
    }

    private static void readBelowZero() {
        c.says("of a READ by a register known as below 0, none");
        for (int number : a(-1, LEAST)) {
            only(a(SET, 1, number), a(READ, 2, 1), a(PASS));
            comeTo(0, 1);
        }
        for (int number : a(0, 1, 15, 16, MOST)) {
            only(a(SET, 1, number), a(READ, 1, 1), a(PASS));
            comeTo(0, 1, 2, 3); // beyond every FEED too
            unknown(2, 1);
        }
        only(a(READ, 1, 0), a(READ, 2, 1));
        comeTo(0, 1, 2);
    }

    private static void behindActs() {
        c.says("Behind an act x is known if it is SET, or if it is MOVED or made (by 3 to 9) of what is known");
        only(a(SET, 1, 12), a(SET, 2, -5), a(MOVE, 3, 1), a(ADD, 3, 1, 2), a(SUB, 3, 1, 2), a(MUL, 3, 1, 2),
                a(DIV, 3, 1, 2), a(REM, 3, 1, 2), a(LESS, 3, 2, 1), a(ALIKE, 3, 1, 1), a(MOVE, 3, 0), a(OUT, 3));
        long[] due = {0, 0, 0, 12, 7, 17, -60, -2, 2, 1, 1, 0, 0};
        for (int place = 0; place <= 12; place++) {
            known(place, 3, due[place]);
        }
        c.says("all else is as ahead of it.");
        known(12, 1, 12);
        known(12, 2, -5);
        known(1, 2, 0);
        known(2, 1, 12);
        only(a(SET, 1, LEAST), a(MUL, 1, 1, 1), a(MUL, 1, 1, 1));
        known(2, 1, 1L << 62);
        known(3, 1, 0);
        only(a(READ, 1, 0), a(SET, 1, 3), a(READ, 2, 1));
        unknown(1, 1);
        known(2, 1, 3);
        known(3, 1, 3);
    }

    private static void madeOfOthers() {
        c.says("and is not known if it is made of other things or READ");
        for (int kind = ADD; kind <= ALIKE; kind++) {
            only(a(READ, 1, 0), a(SET, 2, 1), a(SET, 3, 9), a(kind, 3, 1, 2));
            unknown(4, 3);
            only(a(READ, 1, 0), a(SET, 2, 1), a(SET, 3, 9), a(kind, 3, 2, 1));
            unknown(4, 3);
            only(a(READ, 1, 0), a(SET, 3, 9), a(kind, 3, 1, 1));
            unknown(3, 3); // though some of these could be nothing else
        }
        only(a(READ, 1, 0), a(SET, 3, 9), a(MOVE, 3, 1), a(MUL, 3, 1, 0));
        unknown(3, 3);
        unknown(4, 3); // nor is 0 times it
        only(a(SET, 1, 5), a(READ, 1, 0));
        unknown(2, 1);
    }

    private static void joins() {
        c.says("a register is known there as a number, as long as it is known as just this on each way that leads there so far");
        only(a(READ, 1, 0), a(IF, 1, 4), a(SET, 2, 7), a(JUMP, 0, 5), a(SET, 2, 7), a(OUT, 2));
        known(5, 2, 7);
        known(6, 2, 7);
        only(a(READ, 1, 0), a(IF, 1, 4), a(SET, 2, 7), a(JUMP, 0, 5), a(SET, 2, 8), a(OUT, 2));
        known(3, 2, 7);
        unknown(5, 2);
        unknown(6, 2);
        only(a(READ, 1, 0), a(IF, 1, 3), a(MOVE, 2, 1), a(OUT, 2));
        unknown(3, 2); // known on one way alone
        only(a(READ, 1, 0), a(MOVE, 2, 1), a(IF, 1, 4), a(SET, 2, 0), a(OUT, 2));
        unknown(4, 2);
        only(a(READ, 1, 0), a(IF, 1, 50), a(SET, 2, 7));
        unknown(3, 2); // at the END too
        known(3, 3, 0);
    }

    private static void neverAgain() {
        c.says("else it is not known there, and never again.");
        only(a(READ, 1, 0), a(IF, 1, 5), a(IF, 1, 7), a(SET, 2, 5), a(JUMP, 0, 9), a(SET, 2, 6), a(JUMP, 0, 9),
                a(SET, 2, 5), a(JUMP, 0, 9), a(OUT, 2));
        known(4, 2, 5);
        known(6, 2, 6);
        known(8, 2, 5);
        unknown(9, 2); // 5, 6, 5
        only(a(SET, 3, 1), a(OUT, 2), a(ADD, 2, 2, 3), a(IF, 2, 1));
        unknown(1, 2);
        unknown(3, 2);
    }

    private static void placeZeroAgain() {
        c.says("(at PLACE 0 also: 0, as a run begins)");
        only(a(OUT, 1), a(SET, 1, 5), a(JUMP, 0, 0));
        unknown(0, 1);
        known(0, 2, 0);
        known(2, 1, 5);
        only(a(OUT, 1), a(SET, 1, 0), a(JUMP, 0, 0));
        known(0, 1, 0);
        only(a(IF, 2, 50), a(READ, 1, 0), a(IF, 1, 0));
        unknown(0, 1);
        known(0, 2, 0);
        known(3, 2, 0);
    }

    private static void goingOn() {
        c.says("KNOWN is told by going on until nothing changes any more.");
        // What a chain of MOVES hands on is not known only after as many rounds.
        only(a(MOVE, 7, 6), a(MOVE, 6, 5), a(MOVE, 5, 4), a(MOVE, 4, 3), a(MOVE, 3, 2), a(MOVE, 2, 1), a(READ, 1, 0),
                a(IF, 1, 0));
        for (int register = 1; register <= 7; register++) {
            unknown(0, register);
        }
        known(0, 0, 0);
        only(a(READ, 1, 0), a(IF, 2, 4), a(IF, 1, 1), a(HALT), a(SET, 3, 1));
        comeTo(0, 1, 2, 3, 5);
        only(a(READ, 1, 0), a(IF, 2, 5), a(SET, 2, 1), a(IF, 1, 1), a(HALT), a(SET, 3, 1));
        comeTo(0, 1, 2, 3, 4, 5, 6); // a known IF is no more so, and its other way is found later
        unknown(1, 2);
        unknown(6, 3);
        only(a(READ, 1, 0), a(DIV, 3, 1, 2), a(PASS), a(JUMP, 0, 1));
        comeTo(0, 1);
        only(a(READ, 1, 0), a(IF, 1, 3), a(SET, 2, 1), a(DIV, 3, 1, 2), a(PASS));
        comeTo(0, 1, 2, 3, 4, 5);
        only(a(READ, 1, 0), a(IF, 1, 3), a(SET, 2, -1), a(READ, 3, 2), a(PASS));
        comeTo(0, 1, 2, 3, 4, 5);
    }

    private static void laterActs() {
        c.says("Whether a register is known ahead of a PLACE (the END too) of a routine: 1, 0");
        only(a(SET, 1, 5));
        known(1, 1, 5);
        c.due("no PLACE 2", x.known(0, 2, 1), -2);
        x.act(0, SET, 1, 6, 0);
        known(1, 1, 5);
        known(2, 1, 6);
        x.act(0, JUMP, 0, 1, 0);
        unknown(1, 1);
        comeTo(0, 1, 2);
        int other = make(a(SET, 1, 8));
        c.due("of another routine", x.value(other, 1, 1), 8);
        unknown(1, 1);
    }

    /** What is told of one routine is told of it alone, whatever was asked of another. */
    private static void oneRoutineBehindAnother() {
        c.says("As what it is known; 0 when known() is not 1.");
        only(join(acts(a(JUMP, 0, 50)), times(49, PASS)));
        int setting = make(times(49, SET, 3, 7));
        for (int place = 1; place < 50; place++) {
            c.due("of the one", x.value(setting, place, 3), 7);
            c.due("of the other", x.value(0, place, 3), 0);
            c.due("of the other", x.known(0, place, 3), -1);
        }
        for (int register = 0; register < 8; register++) {
            c.due("at the END of the one", x.known(setting, 49, register), 1);
            known(50, register, 0); // nothing leads from there in the other
        }
        c.says("the least that holds in this");
        only(a(PASS), a(PASS), a(JUMP, 0, 0));
        int asking = make(a(OUT, 1), a(OUT, 1), a(OUT, 1), a(OUT, 1));
        c.due("of the one", x.live(asking, 0, 1), 1);
        live(0);
        c.due("of the one", x.live(asking, 3, 1), 1);
        live(3);
    }

    private static void live(int place, int... registers) {
        int mask = 0;
        for (int register : registers) {
            mask |= 1 << register;
        }
        for (int register = 0; register < 8; register++) {
            c.due("live(" + place + ", " + register + ")", x.live(0, place, register), mask >> register & 1);
        }
    }

    private static void liveRefusals() {
        c.says("Whether a register is live ahead of a PLACE (the END too) of a routine: 1, 0. -2 likewise as of known().");
        only(a(OUT, 0), a(OUT, 7));
        for (int routine : a(LEAST, -1, 1, 40, MOST)) {
            c.due("routine " + routine, x.live(routine, 0, 0), -2);
        }
        for (int place : a(LEAST, -1, 3, 50, 51, MOST)) {
            c.due("PLACE " + place, x.live(0, place, 0), -2);
        }
        for (int register : a(LEAST, -1, 8, 9, 32, MOST)) {
            c.due("register " + register, x.live(0, 0, register), -2);
        }
        c.says("ahead of the END none is.");
        live(2);
        only();
        live(0);
        only(times(50, OUT, 3));
        live(0, 3);
        live(49, 3);
        live(50);
        c.due("beyond the END", x.live(0, 51, 3), -2);
    }

    private static void liveAsked() {
        c.says("ahead of an act live are those registers that it asks for (the y and z of MOVE, 3 to 10; the x of OUT and IF)");
        int[][] asking = {a(MOVE, 1, 2), a(READ, 1, 2)};
        for (int[] act : asking) {
            only(act);
            live(0, 2);
        }
        for (int kind = ADD; kind <= ALIKE; kind++) {
            only(a(kind, 1, 2, 3));
            live(0, 2, 3);
            only(a(kind, 0, 7, 7));
            live(0, 7);
        }
        for (int[] act : acts(a(OUT, 6), a(IF, 6, 50), a(IF, 6, 0))) {
            only(act);
            live(0, 6);
        }
        for (int[] act : acts(a(PASS), a(SET, 3, 4), a(SET, 0, 0), a(JUMP, 0, 7), a(JUMP, 0, 0), a(HALT))) {
            only(act);
            live(0);
        }
    }

    private static void liveMade() {
        c.says("but for the x that it makes (1 to 10)");
        int[][] making = {a(SET, 1, 1), a(MOVE, 1, 2), a(ADD, 1, 2, 2), a(SUB, 1, 2, 2), a(MUL, 1, 2, 2), a(DIV, 1, 2, 2),
                a(REM, 1, 2, 2), a(LESS, 1, 2, 2), a(ALIKE, 1, 2, 2), a(READ, 1, 2)};
        for (int[] act : making) {
            only(act, a(OUT, 1));
            live(1, 1);
            if (act[0] == SET) {
                live(0);
            } else {
                live(0, 2);
            }
        }
        for (int kind = MOVE; kind <= READ; kind++) {
            only(a(kind, 1, 1, 0), a(OUT, 1));
            c.due("made of itself by KIND " + kind, x.live(0, 0, 1), 1);
        }
        for (int[] act : acts(a(OUT, 0), a(IF, 0, 50), a(PASS), a(JUMP, 0, 1))) {
            only(act, a(OUT, 0));
            live(0, 0); // these make nothing, not register 0 either
        }
    }

    private static void liveWays() {
        c.says("those that are live ahead of a PLACE to which a way on leads");
        only(a(IF, 1, 3), a(OUT, 2), a(HALT), a(OUT, 3), a(JUMP, 0, 50), a(OUT, 4));
        live(0, 1, 2, 3);
        live(1, 2);
        live(2);
        live(3, 3);
        live(4);
        live(5, 4);
        only(a(IF, 1, 50), a(OUT, 2));
        live(0, 1, 2);
        only(a(JUMP, 0, 1), a(OUT, 5));
        live(0, 5);
        only(a(SET, 1, 1), a(IF, 1, 3), a(OUT, 2), a(OUT, 3));
        live(0, 2, 3); // what is known of an IF does not count
        only(a(OUT, 1), a(OUT, 2), a(JUMP, 0, 0));
        live(2, 1, 2);
        live(1, 1, 2);
    }

    private static void liveLeast() {
        c.says("the least that holds in this");
        only(a(JUMP, 0, 0), a(OUT, 1));
        live(0);
        only(a(PASS), a(SET, 2, 1), a(JUMP, 0, 0));
        live(0);
        live(2);
        only(a(MOVE, 6, 7), a(MOVE, 5, 6), a(MOVE, 4, 5), a(MOVE, 3, 4), a(MOVE, 2, 3), a(MOVE, 1, 2), a(JUMP, 0, 0));
        live(0, 7); // the others are made ahead of being asked for
        only(a(OUT, 7), a(MOVE, 7, 6), a(MOVE, 6, 5), a(MOVE, 5, 4), a(MOVE, 4, 3), a(IF, 0, 0));
        live(5, 0, 3, 4, 5, 6, 7);
        live(6);
    }
}
