/** The document's edges: "-2 is what a refused call answers; it changes nothing." All that can be asked is asked again. */
public final class EdgeRefusalsTest extends Edges {
    public static void main(String[] args) {
        begin("EdgeRefusalsTest");
        c.says("-2 is what a refused call answers; it changes nothing.");
        forEach(false);
        forEach(true);
        feedStays();
        c.finish();
    }

    /** An object with something of everything; a full one has no room for anything. */
    private static void prepare(boolean full) {
        court(acts(a(SET, 1, 5), a(OUT, 1), a(READ, 2, 1), a(HALT)), acts(a(SET, 1, 5), a(PASS), a(OUT, 1)));
        make(full ? times(50, OUT, 1) : times(2, OUT, 1));
        for (int i = 0; i < (full ? 16 : 2); i++) {
            x.feed(70 + i);
        }
        for (int i = 3; full && i < 40; i++) {
            x.routine();
        }
        x.run(0, 50);
        for (int i = 0; i < (full ? 200 : 2); i++) {
            x.pair(i % 51, 0, 0, 7);
        }
        x.claim(1, 3, 2, 44);
        x.claim(0, 2, 1, 0);
        judged("ahead", 5, 0);
    }

    /** All that the object tells of itself, but for where(). */
    private static String state() {
        StringBuilder told = new StringBuilder();
        for (int what = 0; what < 3; what++) {
            told.append(x.count(what)).append(' ');
        }
        for (int routine = 0; routine <= x.count(0); routine++) {
            told.append(x.length(routine)).append(": ");
            for (int place = 0; place < x.length(routine); place++) {
                for (int what = 0; what < 4; what++) {
                    told.append(x.at(routine, place, what)).append(' ');
                }
            }
        }
        for (int pair = 0; pair < x.count(1); pair++) {
            for (int what = 0; what < 12; what++) {
                told.append(x.of(pair, what)).append(' ');
            }
            for (int register = 0; register < 8; register++) {
                told.append(x.number(pair, register)).append(' ');
            }
        }
        told.append(x.outs()).append(' ').append(x.ran(0)).append(' ').append(x.ran(1));
        for (int i = 0; i < 8; i++) {
            told.append(' ').append(x.register(i)).append(' ').append(x.out(i));
        }
        return told.toString();
    }

    private static void refused(String what, long answer, long due, String ahead) {
        c.due(what, answer, due);
        c.due(what + " changed something", state().equals(ahead) ? 0 : 1, 0);
    }

    private static void keeps(String what, long answer, String ahead) {
        refused(what, answer, -2, ahead);
        c.due(what + ": where", x.where(), 0);
    }

    private static void forEach(boolean full) {
        prepare(full);
        String ahead = state();
        wrongNumbers(ahead);
        if (full) {
            keeps("routine", x.routine(), ahead);
            keeps("act", x.act(2, PASS, 0, 0, 0), ahead);
            keeps("feed", x.feed(1), ahead);
            keeps("pair", x.pair(0, 0, 0, 0), ahead);
            keeps("best", x.best(0), ahead);
            for (int which = FOLD; which <= PACK; which++) {
                keeps("pass", x.pass(0, which), ahead);
            }
        }
        c.says("-1 when it told none, or was refused, and before the first one.");
        refused("judge", x.judge(0, 40), -2, ahead);
        c.due("where", x.where(), -1);
        judged("as ahead", 5, 0);
        refused("judge", x.judge(-1, 0), -2, ahead);
        c.due("where", x.where(), -1);
        judged("as ahead", 5, 0);
        c.says("-2 is what a refused call answers; it changes nothing.");
    }

    private static void wrongNumbers(String ahead) {
        for (int none : a(LEAST, -1, 40, MOST)) {
            keeps("act", x.act(none, PASS, 0, 0, 0), ahead);
            keeps("length", x.length(none), ahead);
            keeps("pass", x.pass(none, FOLD), ahead);
            keeps("pass", x.pass(0, none), ahead);
            keeps("best", x.best(none), ahead);
            keeps("same", x.same(none, 0), ahead);
            keeps("same", x.same(0, none), ahead);
            keeps("known", x.known(none, 0, 0), ahead);
            keeps("known", x.known(0, 0, none), ahead);
            keeps("live", x.live(none, 0, 0), ahead);
            keeps("live", x.live(0, 0, none), ahead);
            keeps("run", x.run(none, 1), ahead);
            keeps("ran", x.ran(none), ahead);
            keeps("pair", x.pair(0, 0, none, 0), ahead);
            keeps("claim", x.claim(1, none, 1, 1), ahead);
            keeps("claim", x.claim(1, 3, none, 1), ahead);
            keeps("of", x.of(0, none), ahead);
            keeps("count", x.count(none), ahead);
            refused("at", x.at(none, 0, 0), NO_ACT, ahead);
            refused("at", x.at(0, 0, none), NO_ACT, ahead);
            refused("value", x.value(none, 0, 0), 0, ahead);
            refused("value", x.value(0, 0, none), 0, ahead);
            refused("register", x.register(none), 0, ahead);
            refused("number", x.number(0, none), 0, ahead);
        }
        for (int none : a(LEAST, -1, 200000, MOST)) {
            keeps("known", x.known(0, none, 0), ahead);
            keeps("live", x.live(0, none, 0), ahead);
            keeps("run", x.run(0, none), ahead);
            keeps("pair", x.pair(none, 0, 0, 0), ahead);
            keeps("pair", x.pair(0, none, 0, 0), ahead);
            keeps("pair", x.pair(0, 0, 0, none), ahead);
            keeps("claim", x.claim(none, 0, 1, 1), ahead);
            keeps("of", x.of(none, 0), ahead);
            refused("at", x.at(0, none, 0), NO_ACT, ahead);
            refused("value", x.value(0, none, 0), 0, ahead);
            refused("out", x.out(none), 0, ahead);
            refused("number", x.number(none, 0), 0, ahead);
        }
        keeps("act of no KIND", x.act(1, 15, 0, 0, 0), ahead);
        keeps("act of no register", x.act(1, OUT, 8, 0, 0), ahead);
        keeps("act of no PLACE", x.act(1, JUMP, 0, 51, 0), ahead);
        keeps("act of what is not named", x.act(1, SET, 0, 0, 1), ahead);
    }

    private static void feedStays() {
        prepare(true);
        c.due("feed", x.feed(99), -2);
        c.due("run", x.run(0, -1), -2);
        int reads = 39;
        for (int i = 0; i < 16; i++) {
            x.act(reads, SET, 1, i, 0);
            x.act(reads, READ, 2, 1, 0);
            x.act(reads, OUT, 2, 0, 0);
        }
        c.due("run", x.run(reads, 50), 0);
        for (int i = 0; i < 16; i++) {
            c.due("number " + i + " of the FEED", x.out(i), 70 + i);
        }
    }
}
