import java.util.Random;

/** All promises: random calls, each answered by the class as by a second reading of the document (Oracle). */
public final class OracleTest {
    private static final Checks c = new Checks("OracleTest");
    private static final int OBJECTS = 12000;
    private static final int CALLS = 512;
    /** No step makes more calls than these, but those that look whether there are calls left. */
    private static final int CALLS_OF_A_STEP = 60;
    private static final int[] EDGES = {Integer.MIN_VALUE, -1, 8, 12, 15, 40, 50, 51, 200, 1000, 1001, 100000, 100001, Integer.MAX_VALUE};

    private final Random random;
    private final PassCourt x = new PassCourt();
    private final Oracle o;
    private final long seed;
    private int call;

    private OracleTest(long seed) {
        this.seed = seed;
        random = new Random(seed);
        o = new Oracle(seed);
    }

    public static void main(String[] args) {
        int[] faults = new int[8];
        for (int i = 0; i < OBJECTS; i++) {
            new OracleTest(i).drive(faults);
        }
        // The test is of worth only if every FAULT, and none, came up.
        for (int fault = 0; fault < 8; fault++) {
            c.due("FAULT " + fault + " came up", faults[fault] > 20 ? 1 : 0, 1);
        }
        c.finish();
    }

    private int n(int bound) {
        return random.nextInt(bound);
    }

    /** Mostly a number below the bound, now and then an edge. */
    private int around(int bound) {
        return n(40) == 0 ? EDGES[n(EDGES.length)] : n(Math.max(1, bound));
    }

    private long someLong() {
        switch (n(8)) {
            case 0: return Long.MIN_VALUE;
            case 1: return Long.MAX_VALUE;
            case 2: return random.nextLong();
            default: return n(5) - 1;
        }
    }

    private int someInt() {
        switch (n(10)) {
            case 0: return Integer.MAX_VALUE;
            case 1: return Integer.MIN_VALUE;
            default: return n(6) - 2;
        }
    }

    /** What a call answered is this. */
    private void due(String what, long got, long want) {
        call++;
        c.due("object " + seed + ", call " + call + ": " + what, got, want);
    }

    private void drive(int[] faults) {
        int span = 2 + n(12); // of jumps, so that they often stay inside
        int registers = 2 + n(7);
        int limit = 1 + n(seed % 10 == 0 ? 50 : 12);
        due("routine", x.routine(), o.routine());
        while (callsAreLeft()) {
            switch (n(20)) {
                case 0: due("routine", x.routine(), o.routine()); break;
                case 1: case 2: case 3: case 4: case 5: case 6: addAct(span, registers, limit); break;
                case 7: case 8: passAndJudge(faults); break;
                case 9: run(); break;
                case 10: case 11: analyses(); break;
                case 12: spoilWitness(registers); break;
                case 13: case 14: judge(faults, around(o.count(0)), around(o.count(0))); break;
                case 15: look(); break;
                case 16: feed(); break;
                case 17: handMade(span, registers); break;
                case 18: lookAtWitness(); break;
                default: rare(); break;
            }
        }
    }

    private boolean callsAreLeft() {
        return call + CALLS_OF_A_STEP <= CALLS;
    }

    private void addAct(int span, int registers, int limit) {
        int routine = around(o.count(0));
        if (o.length(routine) >= limit && n(20) != 0) {
            return;
        }
        int kind = n(50) == 0 ? around(15) : n(15);
        int rx = n(60) == 0 ? around(9) : n(registers);
        int ry = n(60) == 0 ? around(9) : n(registers);
        int rz = n(60) == 0 ? around(9) : n(registers);
        int place = n(10) == 0 ? around(51) : n(span);
        int ax = kind == 0 || kind == 12 || kind == 14 ? 0 : rx;
        int ay = kind == 1 ? someInt() : kind == 12 || kind == 13 ? place : kind >= 2 && kind <= 10 ? ry : 0;
        int az = kind >= 3 && kind <= 9 ? rz : 0;
        due("act", x.act(routine, kind, ax, ay, az), o.act(routine, kind, ax, ay, az));
    }

    private void passAndJudge(int[] faults) {
        int routine = around(o.count(0));
        int which = around(4);
        int made = o.pass(routine, which);
        due("pass " + which, x.pass(routine, which), made);
        judge(faults, routine, made);
        if (made >= 0 && n(5) == 0) {
            sameRoutine(made);
            sameWitness();
        }
        if (made >= 0) {
            c.due("a PASS brings a WITNESS that is taken", o.judge(routine, made), 0);
        }
    }

    private void sameRoutine(int routine) {
        due("length", x.length(routine), o.length(routine));
        for (int place = 0; place < o.length(routine) && callsAreLeft(); place++) {
            for (int what = 0; what < 4; what++) {
                due("at(" + routine + ", " + place + ", " + what + ")", x.at(routine, place, what), o.at(routine, place, what));
            }
        }
    }

    private void sameWitness() {
        due("PAIRS", x.count(1), o.count(1));
        for (int pair = 0; pair < o.count(1) && callsAreLeft(); pair++) {
            for (int what = 0; what < 12; what++) {
                due("of(" + pair + ", " + what + ")", x.of(pair, what), o.of(pair, what));
            }
            for (int register = 0; register < 8; register++) {
                due("number(" + pair + ", " + register + ")", x.number(pair, register), o.number(pair, register));
            }
        }
    }

    private void judge(int[] faults, int a, int b) {
        int fault = o.judge(a, b);
        due("judge(" + a + ", " + b + ")", x.judge(a, b), fault);
        due("where", x.where(), o.where());
        if (fault >= 0) {
            faults[fault]++;
        }
    }

    private void run() {
        int routine = around(o.count(0));
        int fuel = n(30) == 0 ? around(1000) : n(120);
        due("run", x.run(routine, fuel), o.run(routine, fuel));
        due("outs", x.outs(), o.outs());
        for (int what = 0; what < 2; what++) {
            due("ran", x.ran(what), o.ran(what));
        }
        for (int i = 0; i < Math.min(202, o.outs() + 1) && callsAreLeft(); i++) {
            due("out " + i, x.out(i), o.out(i));
        }
        for (int i = 0; i < 8; i++) {
            due("register " + i, x.register(i), o.register(i));
        }
    }

    private void analyses() {
        int routine = around(o.count(0));
        int place = around(o.length(routine) + 2);
        int register = around(9);
        due("known", x.known(routine, place, register), o.known(routine, place, register));
        due("value", x.value(routine, place, register), o.value(routine, place, register));
        due("live", x.live(routine, place, register), o.live(routine, place, register));
    }

    private void spoilWitness(int registers) {
        int pair = around(o.count(1));
        int register = n(60) == 0 ? around(9) : n(registers);
        int claim = around(3);
        long number = someLong();
        due("claim", x.claim(pair, register, claim, number), o.claim(pair, register, claim, number));
    }

    private void handMade(int span, int registers) {
        if (n(8) == 0) {
            due("clear", x.clear(), o.clear());
        }
        int more = 1 + n(4);
        for (int i = 0; i < more; i++) {
            int first = n(4) == 0 ? 0 : around(span);
            int second = n(2) == 0 ? first : around(span);
            int mode = n(3) == 0 ? around(3) : 0;
            int measure = around(6);
            int pair = o.pair(first, second, mode, measure);
            due("pair", x.pair(first, second, mode, measure), pair);
            for (int register = 0; register < registers; register++) {
                int claim = n(3);
                long number = n(4) == 0 ? someLong() : 0;
                due("claim", x.claim(pair, register, claim, number), o.claim(pair, register, claim, number));
            }
        }
    }

    private void feed() {
        if (n(12) == 0) {
            due("dry", x.dry(), o.dry());
        }
        long v = someLong();
        due("feed", x.feed(v), o.feed(v));
    }

    private void look() {
        int routine = around(o.count(0));
        int place = around(o.length(routine) + 1);
        int what = around(5);
        due("at", x.at(routine, place, what), o.at(routine, place, what));
        due("length", x.length(routine), o.length(routine));
        int other = around(o.count(0));
        due("same", x.same(routine, other), o.same(routine, other));
        due("count", x.count(what), o.count(what));
        due("ran", x.ran(what), o.ran(what));
        due("out", x.out(what), o.out(what));
        due("register", x.register(what), o.register(what));
    }

    private void lookAtWitness() {
        int pair = around(o.count(1));
        int what = around(13);
        due("of", x.of(pair, what), o.of(pair, what));
        due("number", x.number(pair, what), o.number(pair, what));
    }

    private void rare() {
        int routine = around(o.count(0));
        if (n(4) != 0) {
            return;
        }
        int made = o.best(routine);
        due("best", x.best(routine), made);
        due("the WITNESS stays", x.count(1), o.count(1));
        if (made >= 0) {
            sameRoutine(made);
        }
    }
}
