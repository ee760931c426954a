import java.util.function.LongSupplier;

/**
 * The document's edges: "-2 is what a refused call answers; it changes nothing." Behind each refused call all that can be
 * asked is asked, and answered as by an object of which nothing was refused. An object is used for at most 512 calls, so
 * the questions are put in rounds, each to a new object.
 */
public final class EdgeRefusalsTest extends Edges {
    private static final int QUESTIONS_OF_A_ROUND = 180;

    /** Whether the objects have no room for anything more. */
    private static boolean full;
    /** What an object of which nothing was refused tells in each round. */
    private static String[] due;
    private static int firstQuestion;
    private static int question;
    private static final StringBuilder told = new StringBuilder();

    public static void main(String[] args) {
        begin("EdgeRefusalsTest");
        c.says("-2 is what a refused call answers; it changes nothing.");
        full = false;
        refusals();
        full = true;
        refusals();
        fullRefusals();
        feedStays();
        c.finish();
    }

    private static void refusals() {
        hearWhatIsDue();
        wrongRoutines();
        wrongNumbers();
        wrongPlaces();
        wrongActs();
        c.says("-1 when it told none, or was refused, and before the first one.");
        changesNothing("judge", () -> x.judge(0, 40), -2, -1);
        changesNothing("judge", () -> x.judge(-1, 0), -2, -1);
        c.says("-2 is what a refused call answers; it changes nothing.");
    }

    /** A new object with something of everything. */
    private static void prepare() {
        court(acts(a(SET, 1, 5), a(OUT, 1), a(READ, 2, 1), a(HALT)), acts(a(SET, 1, 5), a(PASS), a(OUT, 1)));
        make(full ? times(50, OUT, 1) : times(2, OUT, 1));
        for (int i = 0; i < (full ? 16 : 2); i++) {
            x.feed(70 + i);
        }
        for (int i = 3; full && i < 40; i++) {
            x.routine();
        }
        x.run(0, 50);
        for (int i = 0; i < pairs(); i++) {
            x.pair(i % 51, 0, 0, 7);
        }
        x.claim(1, 3, 2, 44);
        x.claim(0, 2, 1, 0);
        judged("ahead", 5, 0);
    }

    private static int pairs() {
        return full ? 200 : 2;
    }

    private static void ask(LongSupplier asked) {
        if (question >= firstQuestion && question < firstQuestion + QUESTIONS_OF_A_ROUND) {
            told.append(asked.getAsLong()).append(' ');
        }
        question++;
    }

    /** What the object tells of itself in a round; where() is asked apart from it. */
    private static String tell(int round) {
        told.setLength(0);
        firstQuestion = round * QUESTIONS_OF_A_ROUND;
        question = 0;
        for (int what = 0; what < 3; what++) {
            int w = what;
            ask(() -> x.count(w));
        }
        ask(() -> x.outs());
        ask(() -> x.ran(0));
        ask(() -> x.ran(1));
        for (int i = 0; i < 8; i++) {
            int number = i;
            ask(() -> x.register(number));
            ask(() -> x.out(number));
        }
        tellRoutines();
        tellPairs();
        return told.toString();
    }

    private static void tellRoutines() {
        for (int i = 0; i < 40; i++) {
            int routine = i;
            ask(() -> x.length(routine));
        }
        for (int i = 0; i < 3 * 50 * 4; i++) {
            int act = i;
            ask(() -> x.at(act / 200, act / 4 % 50, act % 4));
        }
    }

    private static void tellPairs() {
        for (int i = 0; i < pairs() * 20; i++) {
            int pair = i / 20;
            int what = i % 20;
            ask(() -> what < 12 ? x.of(pair, what) : x.number(pair, what - 12));
        }
    }

    private static void hearWhatIsDue() {
        prepare();
        tell(0);
        due = new String[question / QUESTIONS_OF_A_ROUND + 1];
        for (int round = 0; round < due.length; round++) {
            prepare();
            due[round] = tell(round);
        }
    }

    private static void changesNothing(String what, LongSupplier call, long answer, int where) {
        for (int round = 0; round < due.length; round++) {
            prepare();
            c.due(what, call.getAsLong(), answer);
            c.due(what + ": where", x.where(), where);
            c.due(what + " changed something", tell(round).equals(due[round]) ? 0 : 1, 0);
        }
        judged("behind " + what + ", as ahead", 5, 0);
    }

    private static void refused(String what, LongSupplier call) {
        changesNothing(what, call, -2, 0);
    }

    private static void tellsNone(String what, LongSupplier call, long answer) {
        changesNothing(what, call, answer, 0);
    }

    private static void wrongRoutines() {
        for (int none : a(LEAST, -1, 40, MOST)) {
            refused("act", () -> x.act(none, PASS, 0, 0, 0));
            refused("length", () -> x.length(none));
            refused("pass", () -> x.pass(none, FOLD));
            refused("best", () -> x.best(none));
            refused("same", () -> x.same(none, 0));
            refused("same", () -> x.same(0, none));
            refused("known", () -> x.known(none, 0, 0));
            refused("live", () -> x.live(none, 0, 0));
            refused("run", () -> x.run(none, 1));
            tellsNone("at", () -> x.at(none, 0, 0), NO_ACT);
            tellsNone("value", () -> x.value(none, 0, 0), 0);
        }
    }

    /** Of PASSES, registers, MODES, claims and what. */
    private static void wrongNumbers() {
        for (int none : a(LEAST, -1, 40, MOST)) {
            refused("pass", () -> x.pass(0, none));
            refused("known", () -> x.known(0, 0, none));
            refused("live", () -> x.live(0, 0, none));
            refused("ran", () -> x.ran(none));
            refused("pair", () -> x.pair(0, 0, none, 0));
            refused("claim", () -> x.claim(1, none, 1, 1));
            refused("claim", () -> x.claim(1, 3, none, 1));
            refused("of", () -> x.of(0, none));
            refused("count", () -> x.count(none));
            tellsNone("at", () -> x.at(0, 0, none), NO_ACT);
            tellsNone("value", () -> x.value(0, 0, none), 0);
            tellsNone("register", () -> x.register(none), 0);
            tellsNone("number", () -> x.number(0, none), 0);
        }
    }

    /** Of PLACES, fuel, MEASURES, PAIRS and numbers given out. */
    private static void wrongPlaces() {
        for (int none : a(LEAST, -1, 200000, MOST)) {
            refused("known", () -> x.known(0, none, 0));
            refused("live", () -> x.live(0, none, 0));
            refused("run", () -> x.run(0, none));
            refused("pair", () -> x.pair(none, 0, 0, 0));
            refused("pair", () -> x.pair(0, none, 0, 0));
            refused("pair", () -> x.pair(0, 0, 0, none));
            refused("claim", () -> x.claim(none, 0, 1, 1));
            refused("of", () -> x.of(none, 0));
            tellsNone("at", () -> x.at(0, none, 0), NO_ACT);
            tellsNone("value", () -> x.value(0, none, 0), 0);
            tellsNone("out", () -> x.out(none), 0);
            tellsNone("number", () -> x.number(none, 0), 0);
        }
    }

    private static void wrongActs() {
        refused("act of no KIND", () -> x.act(1, 15, 0, 0, 0));
        refused("act of no register", () -> x.act(1, OUT, 8, 0, 0));
        refused("act of no PLACE", () -> x.act(1, JUMP, 0, 51, 0));
        refused("act of what is not named", () -> x.act(1, SET, 0, 0, 1));
    }

    private static void fullRefusals() {
        refused("routine", () -> x.routine());
        refused("act", () -> x.act(2, PASS, 0, 0, 0));
        refused("feed", () -> x.feed(1));
        refused("pair", () -> x.pair(0, 0, 0, 0));
        refused("best", () -> x.best(0));
        for (int which : a(FOLD, DROP, THREAD, PACK)) {
            refused("pass", () -> x.pass(0, which));
        }
    }

    private static void feedStays() {
        prepare();
        c.due("feed", x.feed(99), -2);
        c.due("run", x.run(0, -1), -2);
        int reads = 39;
        for (int i = 0; i < 16; i++) {
            x.act(reads, SET, 1, i, 0);
            x.act(reads, READ, 2, 1, 0);
            x.act(reads, OUT, 2, 0, 0);
        }
        c.due("run", x.run(reads, 50), 0);
        for (int i = 0; i < 16; i++) {
            c.due("number " + i + " of the FEED", x.out(i), 70 + i);
        }
    }
}
