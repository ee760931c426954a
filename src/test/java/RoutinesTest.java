/** Promises 1 to 5, 8 and 26: new objects, routines and their acts. */
public final class RoutinesTest {
    private static final Checks c = new Checks("RoutinesTest");
    private static final int NONE = -2000000000;

    public static void main(String[] args) {
        newObject();
        routineLimit();
        actLimit();
        whatActsTake();
        at();
        same();
        count();
        c.finish();
    }

    private static void newObject() {
        PassCourt x = new PassCourt();
        for (int what = 0; what < 3; what++) {
            c.due("count of a new object", x.count(what), 0);
        }
        c.due("length", x.length(0), -2);
        c.due("outs", x.outs(), 0);
        c.due("out", x.out(0), 0);
        c.due("ran(0)", x.ran(0), 0);
        c.due("ran(1)", x.ran(1), 0);
        c.due("register", x.register(3), 0);
        c.due("where", x.where(), -1);
        c.due("clear", x.clear(), 0);
        c.due("dry", x.dry(), 0);
        c.due("judge", x.judge(0, 0), -2);
        c.due("run", x.run(0, 1), -2);
    }

    private static void routineLimit() {
        PassCourt x = new PassCourt();
        for (int i = 0; i < 40; i++) {
            c.due("routine", x.routine(), i);
            c.due("length of a new one", x.length(i), 0);
        }
        c.due("routine 41", x.routine(), -2);
        c.due("pass with 40", x.pass(0, 0), -2);
        c.due("best with 40", x.best(0), -2);
        c.due("count", x.count(0), 40);
        c.due("act in the last", x.act(39, 14, 0, 0, 0), 0);
        c.due("act in none", x.act(40, 14, 0, 0, 0), -2);
        c.due("act in -1", x.act(-1, 14, 0, 0, 0), -2);
        c.due("length of none", x.length(40), -2);
        c.due("length of -1", x.length(-1), -2);
        c.due("PAIRS after refused passes", x.count(1), 0);
    }

    private static void actLimit() {
        PassCourt x = new PassCourt();
        x.routine();
        for (int i = 0; i < 50; i++) {
            c.due("act", x.act(0, 1, 0, i, 0), i);
        }
        c.due("act 51", x.act(0, 1, 0, 50, 0), -2);
        c.due("length", x.length(0), 50);
        c.due("last", x.at(0, 49, 2), 49);
        c.due("run to the END", x.run(0, 50), 0);
        c.due("place", x.ran(1), 50);
        for (int which = 0; which < 4; which++) {
            c.due("pass", x.pass(0, which), 1 + which);
            c.due("judge", x.judge(0, 1 + which), 0);
        }
        c.due("best", x.best(0), 5);
        c.due("nothing left", x.length(5), 0);
    }

    /** Which of x, y, z a KIND names: r a register, i any int, p a PLACE, 0 nothing. */
    private static final String[] NAMES = {"000", "ri0", "rr0", "rrr", "rrr", "rrr", "rrr", "rrr", "rrr", "rrr",
            "rr0", "r00", "0p0", "rp0", "000"};

    private static boolean takes(char name, int number) {
        switch (name) {
            case 'r': return number >= 0 && number <= 7;
            case 'p': return number >= 0 && number <= 50;
            case 'i': return true;
            default: return number == 0;
        }
    }

    private static void whatActsTake() {
        int[] tried = {Integer.MIN_VALUE, -1, 0, 1, 7, 8, 50, 51, Integer.MAX_VALUE};
        PassCourt x = new PassCourt();
        int routine = x.routine();
        int calls = 0;
        for (int kind = 0; kind <= 14; kind++) {
            for (int place = 0; place < 3; place++) {
                for (int number : tried) {
                    if (calls++ % 40 == 0) {
                        x = new PassCourt();
                        routine = x.routine();
                    }
                    int[] n = new int[3];
                    n[place] = number;
                    int length = x.length(routine);
                    boolean fits = takes(NAMES[kind].charAt(place), number);
                    c.due("act " + kind + " " + n[0] + " " + n[1] + " " + n[2],
                            x.act(routine, kind, n[0], n[1], n[2]), fits ? length : -2);
                    c.due("length then", x.length(routine), fits ? length + 1 : length);
                }
            }
        }
        c.due("KIND -1", x.act(routine, -1, 0, 0, 0), -2);
        c.due("KIND 15", x.act(routine, 15, 0, 0, 0), -2);
    }

    private static void at() {
        PassCourt x = new PassCourt();
        int r = c.make(x, Checks.a(6, 1, 2, 3), Checks.a(1, 7, Integer.MIN_VALUE));
        c.acts("at", x, r, Checks.a(6, 1, 2, 3), Checks.a(1, 7, Integer.MIN_VALUE));
        c.due("no what", x.at(r, 0, 4), NONE);
        c.due("what -1", x.at(r, 0, -1), NONE);
        c.due("the END", x.at(r, 2, 0), NONE);
        c.due("place -1", x.at(r, -1, 0), NONE);
        c.due("no routine", x.at(1, 0, 0), NONE);
        c.due("routine -1", x.at(-1, 0, 0), NONE);
    }

    private static void same() {
        PassCourt x = new PassCourt();
        int a = c.make(x, Checks.a(6, 1, 2, 3));
        int b = c.make(x, Checks.a(6, 1, 2, 3));
        c.due("alike", x.same(a, b), 1);
        c.due("itself", x.same(a, a), 1);
        int[][] others = {Checks.a(7, 1, 2, 3), Checks.a(6, 0, 2, 3), Checks.a(6, 1, 0, 3), Checks.a(6, 1, 2, 0)};
        for (int[] other : others) {
            c.due("other act", x.same(a, c.make(x, other)), 0);
        }
        x.act(b, 14, 0, 0, 0);
        c.due("longer", x.same(a, b), 0);
        c.due("shorter", x.same(b, a), 0);
        c.due("empty ones", x.same(x.routine(), x.routine()), 1);
        int jump = c.make(x, Checks.a(12, 0, 1));
        c.due("another number for the END", x.same(jump, c.make(x, Checks.a(12, 0, 2))), 0);
        c.due("none", x.same(a, 99), -2);
        c.due("none first", x.same(-1, a), -2);
    }

    private static void count() {
        PassCourt x = new PassCourt();
        x.routine();
        x.routine();
        x.pair(0, 0, 0, 0);
        x.feed(4);
        x.feed(4);
        x.feed(4);
        c.due("routines", x.count(0), 2);
        c.due("PAIRS", x.count(1), 1);
        c.due("FEED", x.count(2), 3);
        c.due("another", x.count(3), -2);
        c.due("another", x.count(-1), -2);
    }
}
