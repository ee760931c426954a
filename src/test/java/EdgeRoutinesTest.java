/** The document's edges, sentence by sentence: routines and acts (Terms 1, promises 1 to 5, 8, 26), and 512 calls. */
public final class EdgeRoutinesTest extends Edges {
    public static void main(String[] args) {
        begin("EdgeRoutinesTest");
        newObject();
        objectsApart();
        fortyRoutines();
        fortyByPasses();
        actsNumbered();
        fiftyActs();
        roomBehindPasses();
        noRoutineForActs();
        kinds();
        notNamed();
        registersNamed();
        anyInt();
        places();
        at();
        length();
        same();
        count();
        lastCall();
        c.finish();
    }

    private static void newObject() {
        c.says("No routines, an empty FEED, an empty WITNESS; nothing was run.");
        x = new PassCourt();
        for (int what = 0; what < 3; what++) {
            c.due("count " + what, x.count(what), 0);
        }
        c.due("no routine 0", x.length(0), -2);
        c.due("no PAIR 0", x.of(0, 0), -2);
        c.due("dry", x.dry(), 0);
        c.due("clear", x.clear(), 0);
        c.due("outs", x.outs(), 0);
        c.due("out", x.out(0), 0);
        c.due("acts done", x.ran(0), 0);
        c.due("PLACE", x.ran(1), 0);
        for (int register = 0; register < 8; register++) {
            c.due("register " + register, x.register(register), 0);
        }
        c.due("where", x.where(), -1);
    }

    private static void objectsApart() {
        c.says("No routines, an empty FEED, an empty WITNESS; nothing was run.");
        only(a(SET, 1, 5), a(OUT, 1));
        x.feed(3);
        x.pair(0, 0, 0, 0);
        x.run(0, 9);
        x.judge(0, 0);
        newObject();
    }

    private static void fortyRoutines() {
        c.says("A new routine without acts: its number. -2 when there are 40.");
        x = new PassCourt();
        for (int i = 0; i < 40; i++) {
            c.due("routine", x.routine(), i);
            c.due("without acts", x.length(i), 0);
        }
        c.says("ROUTINES are numbered from 0, 40 at most");
        for (int again = 0; again < 2; again++) {
            c.due("routine 41", x.routine(), -2);
            c.due("still forty", x.count(0), 40);
            c.due("no routine 40", x.length(40), -2);
        }
    }

    private static void fortyByPasses() {
        c.says("-2 when there is no such routine or PASS, or there are 40.");
        for (int which = FOLD; which <= PACK; which++) {
            only(a(OUT, 0));
            for (int i = 1; i < 39; i++) {
                x.routine();
            }
            c.due("the fortieth by a PASS", x.pass(0, which), 39);
            c.due("is full", x.length(39), 1);
            c.due("PASS with forty", x.pass(0, which), -2);
            c.due("best with forty", x.best(0), -2);
            c.due("routine with forty", x.routine(), -2);
            c.due("forty", x.count(0), 40);
        }
        c.says("-2 when there is no such routine, or there are 40.");
        only(a(OUT, 0));
        for (int i = 1; i < 40; i++) {
            c.due("best", x.best(0), i);
        }
        c.due("best with forty", x.best(0), -2);
        c.due("forty", x.count(0), 40);
    }

    private static void actsNumbered() {
        c.says("An act more at the END of a routine: its PLACE.");
        x = new PassCourt();
        x.routine();
        x.routine();
        c.due("first of one", x.act(0, OUT, 1, 0, 0), 0);
        c.due("first of another", x.act(1, OUT, 2, 0, 0), 0);
        c.due("second of one", x.act(0, OUT, 3, 0, 0), 1);
        c.acts("one", x, 0, a(OUT, 1), a(OUT, 3));
        c.acts("another", x, 1, a(OUT, 2));
    }

    private static void fiftyActs() {
        c.says("-2 when there is no such routine, it has 50, the KIND is not 0..14");
        x = new PassCourt();
        x.routine();
        x.routine();
        for (int i = 0; i < 50; i++) {
            c.due("act", x.act(0, SET, 7, i, 0), i);
        }
        for (int kind = 0; kind <= 14; kind++) {
            c.due("act 51 of KIND " + kind, x.act(0, kind, 0, 0, 0), -2);
        }
        c.due("fifty", x.length(0), 50);
        c.due("the last stays", x.at(0, 49, 2), 49);
        c.due("none behind it", x.at(0, 50, 0), NO_ACT);
        c.due("another routine has room", x.act(1, HALT, 0, 0, 0), 0);
        c.says("each of ACTS at PLACES 0, 1, .. (50 at most); the PLACE behind the last act is its END.");
        c.due("run", x.run(0, 50), 0);
        c.due("the END of fifty", x.ran(1), 50);
        c.due("known at the END of fifty", x.value(0, 50, 7), 49);
    }

    private static void roomBehindPasses() {
        c.says("An act more at the END of a routine: its PLACE.");
        only(join(times(49, OUT, 1), a(PASS)));
        c.due("FOLD of a full one", x.pass(0, FOLD), 1);
        c.due("is full", x.act(1, OUT, 2, 0, 0), -2);
        c.due("PACK of a full one", x.pass(0, PACK), 2);
        c.due("has room for one", x.act(2, OUT, 2, 0, 0), 49);
        c.due("and no more", x.act(2, OUT, 2, 0, 0), -2);
        c.due("the first is as it was", x.at(0, 49, 0), PASS);
    }

    private static void noRoutineForActs() {
        c.says("-2 when there is no such routine");
        for (int routine : a(LEAST, -1, 1, 2, 39, 40, MOST)) {
            only();
            c.due("act of " + routine, x.act(routine, PASS, 0, 0, 0), -2);
            c.due("at of " + routine, x.at(routine, 0, 0), NO_ACT);
            c.due("length of " + routine, x.length(routine), -2);
            c.due("same of " + routine, x.same(routine, 0), -2);
            c.due("same of 0 and " + routine, x.same(0, routine), -2);
            c.due("same of it twice", x.same(routine, routine), -2);
            c.due("none came of it", x.count(0), 1);
        }
    }

    private static void kinds() {
        c.says("the KIND is not 0..14");
        only();
        for (int kind : a(LEAST, -1, 15, 16, MOST)) {
            c.due("KIND " + kind, x.act(0, kind, 0, 0, 0), -2);
        }
        c.due("no act came of it", x.length(0), 0);
        for (int kind = 0; kind <= 14; kind++) {
            c.due("KIND " + kind, x.act(0, kind, 0, 0, 0), kind);
            c.due("KIND", x.at(0, kind, 0), kind);
        }
    }

    private static void refused(String what, int... act) {
        int length = x.length(0);
        c.due(what + " of KIND " + act[0], x.act(0, act[0], act[1], act[2], act[3]), -2);
        c.due("no act came of it", x.length(0), length);
    }

    private static void notNamed() {
        c.says("numbers that are not named are 0.");
        only();
        for (int n : a(LEAST, -1, 1, 7, MOST)) {
            for (int kind : a(PASS, JUMP, HALT)) {
                refused("x " + n, kind, n, 0, 0);
            }
            for (int kind : a(PASS, OUT, HALT)) {
                refused("y " + n, kind, 0, n, 0);
            }
            for (int kind : a(PASS, SET, MOVE, READ, OUT, JUMP, IF, HALT)) {
                refused("z " + n, kind, 0, 0, n);
            }
        }
    }

    private static void registersNamed() {
        only();
        for (int n : a(LEAST, -1, 8, 50, MOST)) {
            c.says("x is a register (but of PASS, JUMP, HALT)");
            for (int kind : a(SET, MOVE, ADD, SUB, MUL, DIV, REM, LESS, ALIKE, READ, OUT, IF)) {
                refused("x " + n, kind, n, 0, 0);
            }
            c.says("y and z else registers where they are named");
            for (int kind : a(MOVE, ADD, SUB, MUL, DIV, REM, LESS, ALIKE, READ)) {
                refused("y " + n, kind, 0, n, 0);
            }
            for (int kind : a(ADD, SUB, MUL, DIV, REM, LESS, ALIKE)) {
                refused("z " + n, kind, 0, 0, n);
            }
        }
        c.says("x, y or z is not as told in 1 (what is not named must be 0).");
        for (int kind : a(ADD, SUB, MUL, DIV, REM, LESS, ALIKE)) {
            int place = x.length(0);
            c.due("register 7 thrice", x.act(0, kind, 7, 7, 7), place);
            c.due("register 0 thrice", x.act(0, kind, 0, 0, 0), place + 1);
            refused("x 8", kind, 8, 7, 7);
            refused("y 8", kind, 7, 8, 7);
            refused("z 8", kind, 7, 7, 8);
        }
        for (int kind : a(MOVE, READ)) {
            int place = x.length(0);
            c.due("register 7 twice", x.act(0, kind, 7, 7, 0), place);
        }
    }

    private static void anyInt() {
        c.says("y of SET any int");
        only();
        int place = 0;
        for (int n : a(LEAST, LEAST + 1, -2000000000, -1, 0, 1, 8, 51, MOST)) {
            c.due("SET " + n, x.act(0, SET, 7, n, 0), place);
            c.due("y", x.at(0, place, 2), n);
            c.due("run", x.run(0, 50), 0);
            c.due("register", x.register(7), n);
            place++;
        }
    }

    private static void places() {
        c.says("y of JUMP and IF a PLACE 0 to 50 (one that the routine has not is its END)");
        only();
        for (int n : a(LEAST, -1, 51, 52, MOST)) {
            refused("y " + n, JUMP, 0, n, 0);
            refused("y " + n, IF, 7, n, 0);
        }
        for (int n : a(0, 1, 49, 50)) {
            only();
            c.due("JUMP to " + n, x.act(0, JUMP, 0, n, 0), 0);
            c.due("IF to " + n, x.act(0, IF, 7, n, 0), 1);
            c.due("y as told", x.at(0, 0, 2), n);
            c.due("y as told", x.at(0, 1, 2), n);
        }
        only(a(SET, 1, 1), a(IF, 1, 50), a(OUT, 1));
        c.due("IF beyond", x.run(0, 9), 0);
        c.due("is at the END", x.ran(1), 3);
        x.act(0, OUT, 1, 0, 0);
        c.due("a longer routine", x.run(0, 9), 0);
        c.due("has a later END", x.ran(1), 4);
        only(a(JUMP, 0, 2), a(OUT, 1));
        c.due("JUMP to its END", x.run(0, 9), 0);
        c.due("outs", x.outs(), 0);
        x.act(0, OUT, 1, 0, 0);
        c.due("JUMP to what was its END", x.run(0, 9), 0);
        c.due("is a PLACE now", x.outs(), 1);
    }

    private static void at() {
        c.says("Of the act at a PLACE of a routine: 0 its KIND, 1 x, 2 y, 3 z. -2000000000 when there is no such routine, act or what.");
        only(a(DIV, 7, 6, 5), a(SET, 3, LEAST));
        c.acts("at", x, 0, a(DIV, 7, 6, 5), a(SET, 3, LEAST));
        for (int what : a(LEAST, -1, 4, MOST)) {
            c.due("what " + what, x.at(0, 0, what), NO_ACT);
        }
        for (int place : a(LEAST, -1, 2, 49, 50, 51, MOST)) {
            for (int what = 0; what < 4; what++) {
                c.due("PLACE " + place, x.at(0, place, what), NO_ACT);
            }
        }
        for (int routine : a(LEAST, -1, 1, 40, MOST)) {
            c.due("routine " + routine, x.at(routine, 0, 0), NO_ACT);
        }
        int empty = x.routine();
        c.due("of one without acts", x.at(empty, 0, 0), NO_ACT);
    }

    private static void length() {
        c.says("How many acts a routine has. -2 when there is none such.");
        only();
        c.due("none", x.length(0), 0);
        for (int i = 1; i <= 50; i++) {
            x.act(0, PASS, 0, 0, 0);
            c.due("some", x.length(0), i);
        }
        x.act(0, PASS, 0, 0, 0);
        c.due("refused ones are none", x.length(0), 50);
        c.due("routine 1", x.length(1), -2);
        c.due("routine -1", x.length(-1), -2);
        c.due("routine 40", x.length(40), -2);
    }

    private static void same() {
        c.says("Whether two routines have the same acts: 1, 0. -2 when one of them is none.");
        court(acts(), acts());
        c.due("two without acts", x.same(0, 1), 1);
        c.due("one and itself", x.same(0, 0), 1);
        x.act(0, PASS, 0, 0, 0);
        c.due("one of them longer", x.same(0, 1), 0);
        c.due("one of them shorter", x.same(1, 0), 0);
        court(times(50, ADD, 1, 2, 3), times(49, ADD, 1, 2, 3));
        c.due("forty-nine of fifty", x.same(0, 1), 0);
        x.act(1, ADD, 1, 2, 4);
        c.due("the last z", x.same(0, 1), 0);
        int[][] others = {a(SUB, 1, 2, 3), a(ADD, 0, 2, 3), a(ADD, 1, 0, 3), a(ADD, 1, 2, 0)};
        for (int[] other : others) {
            court(acts(a(ADD, 1, 2, 3), a(OUT, 1)), acts(other, a(OUT, 1)));
            c.due("another first act", x.same(0, 1), 0);
            c.due("another first act", x.same(1, 0), 0);
        }
        court(acts(a(JUMP, 0, 1)), acts(a(JUMP, 0, 50)));
        c.due("two numbers that mean the END are two acts", x.same(0, 1), 0);
        c.due("none", x.same(0, 2), -2);
        c.due("none", x.same(2, 0), -2);
    }

    private static void count() {
        c.says("How many: 0 routines, 1 PAIRS, 2 numbers in the FEED. -2 for another what.");
        x = new PassCourt();
        for (int i = 1; i <= 3; i++) {
            x.routine();
            x.pair(0, 0, 0, 0);
            x.pair(0, 0, 0, 0);
        }
        x.feed(1);
        c.due("routines", x.count(0), 3);
        c.due("PAIRS", x.count(1), 6);
        c.due("FEED", x.count(2), 1);
        for (int what : a(LEAST, -1, 3, MOST)) {
            c.due("what " + what, x.count(what), -2);
        }
        x.pass(0, FOLD);
        c.due("PAIRS of a PASS", x.count(1), 1);
        c.due("routines", x.count(0), 4);
        x.clear();
        x.dry();
        c.due("PAIRS", x.count(1), 0);
        c.due("FEED", x.count(2), 0);
    }

    /** The dearest calls, to the very last one. */
    private static void lastCall() {
        c.says("An object is used for at most 512 calls after it has been made");
        x = new PassCourt();
        x.routine();
        for (int i = 0; i < 50; i++) {
            x.act(0, i % 2 == 0 ? ADD : IF, i % 8, i % 2 == 0 ? i % 5 : 49 - i, i % 2 == 0 ? 7 : 0);
        }
        for (int calls = 51; calls < 469; calls += 2) {
            x.judge(0, 0);
            x.run(0, 3);
        }
        for (int calls = 469; calls < 508; calls++) {
            c.due("call " + (calls + 1), x.pass(0, calls % 4), calls - 468);
        }
        c.due("call 509", x.best(0), -2);
        c.due("call 510", x.pass(0, FOLD), -2);
        c.due("call 511", x.run(0, 0), 3);
        c.due("call 512", x.count(0), 40);
    }
}
