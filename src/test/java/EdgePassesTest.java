/** The document's edges, sentence by sentence: PASSES, their WITNESSES and best() (Terms 3 and 4, promises 6 and 7). */
public final class EdgePassesTest extends Edges {
    private static final int[] SAME = {1, 1, 1, 1, 1, 1, 1, 1};
    private static final int[] KNOWN = {2, 2, 2, 2, 2, 2, 2, 2};

    public static void main(String[] args) {
        begin("EdgePassesTest");
        refusals();
        newOne();
        foldComeTo();
        foldKinds();
        foldInts();
        foldStops();
        foldIfs();
        dropKinds();
        dropAtTheEnd();
        threadBeyond();
        threadLeads();
        threadEndless();
        packPlaces();
        packAll();
        foldWitness();
        foldWitnessEnd();
        dropWitness();
        threadWitness();
        longestThread();
        packWitness();
        emptyRoutine();
        fullRoutines();
        bestUntilNothing();
        bestOrder();
        bestKeeps();
        c.finish();
    }

    /** What a PASS makes of routine 0 of a new object, the WITNESS being taken. */
    private static void makes(int which, int[][] from, int[]... to) {
        only(from);
        c.due("PASS " + which, x.pass(0, which), 1);
        c.acts("PASS " + which, x, 1, to);
        c.acts("what it was made of", x, 0, from);
        taken("PASS " + which);
    }

    private static void stays(int which, int[]... from) {
        makes(which, from, from);
    }

    private static void refusals() {
        c.says("-2 when there is no such routine or PASS, or there are 40.");
        only(a(PASS));
        x.pair(3, 4, 2, 5);
        for (int which : a(LEAST, -1, 4, 5, MOST)) {
            c.due("PASS " + which, x.pass(0, which), -2);
        }
        for (int routine : a(LEAST, -1, 1, 40, MOST)) {
            for (int which = FOLD; which <= PACK; which++) {
                c.due("PASS of " + routine, x.pass(routine, which), -2);
            }
            c.due("best of " + routine, x.best(routine), -2);
        }
        c.due("no routine came of it", x.count(0), 1);
        c.due("nor a WITNESS", x.count(1), 1);
        c.pair("the PAIR", x, 0, a(3, 4, 2, 5), 0, 0, 0, 0, 0, 0, 0, 0);
    }

    private static void newOne() {
        c.says("What a PASS (0..3) makes of a routine is a new one: its number; the WITNESS is that of this.");
        only(a(OUT, 0));
        for (int i = 0; i < 200; i++) {
            x.pair(i % 51, 7, 1, i);
            x.claim(i, 3, 2, 8);
        }
        for (int which = FOLD; which <= PACK; which++) {
            c.due("its number", x.pass(0, which), 1 + which);
            c.due("nothing changed", x.same(0, 1 + which), 1);
            c.due("the PAIRS of this alone", x.count(1), 2);
            c.due("no number of an earlier one", x.number(0, 3), 0);
            c.due("no PAIR of an earlier one", x.of(2, 0), -2);
        }
    }

    private static void foldComeTo() {
        c.says("0 FOLD: at each PLACE that is come to");
        makes(FOLD, acts(a(JUMP, 0, 2), a(MOVE, 1, 2), a(MOVE, 1, 2), a(HALT), a(IF, 0, 1), a(ADD, 1, 2, 3)),
                a(JUMP, 0, 2), a(MOVE, 1, 2), a(SET, 1, 0), a(HALT), a(IF, 0, 1), a(ADD, 1, 2, 3));
    }

    private static void foldKinds() {
        c.says("an act 2 to 9 whose x is known behind it (and that is then no STOP) becomes SET of that, if it is an int");
        int[][] from = {a(SET, 1, 7), a(SET, 2, -2), a(MOVE, 3, 1), a(ADD, 3, 1, 2), a(SUB, 3, 1, 2), a(MUL, 3, 1, 2),
                a(DIV, 3, 1, 2), a(REM, 3, 1, 2), a(LESS, 3, 2, 1), a(ALIKE, 3, 2, 1), a(READ, 3, 1), a(OUT, 1), a(PASS)};
        int[] due = {5, 9, -14, -3, 1, 1, 0};
        int[][] to = from.clone();
        to[2] = a(SET, 3, 7);
        for (int i = 0; i < due.length; i++) {
            to[3 + i] = a(SET, 3, due[i]);
        }
        makes(FOLD, from, to);
        stays(FOLD, a(READ, 1, 0), a(MOVE, 2, 1), a(ADD, 3, 1, 0), a(MUL, 3, 0, 1), a(SUB, 3, 1, 1), a(ALIKE, 3, 1, 1),
                a(DIV, 3, 1, 1), a(IF, 1, 0), a(JUMP, 0, 9));
    }

    private static void foldInts() {
        c.says("becomes SET of that, if it is an int");
        makes(FOLD, acts(a(SET, 1, MOST), a(SET, 2, 1), a(ADD, 3, 1, 2), a(SUB, 4, 3, 2), a(MOVE, 5, 3)),
                a(SET, 1, MOST), a(SET, 2, 1), a(ADD, 3, 1, 2), a(SET, 4, MOST), a(MOVE, 5, 3));
        makes(FOLD, acts(a(SET, 1, LEAST), a(SET, 2, 1), a(SUB, 3, 1, 2), a(ADD, 4, 3, 2), a(MOVE, 5, 3)),
                a(SET, 1, LEAST), a(SET, 2, 1), a(SUB, 3, 1, 2), a(SET, 4, LEAST), a(MOVE, 5, 3));
        makes(FOLD, acts(a(SET, 1, LEAST), a(SET, 2, -1), a(DIV, 3, 1, 2), a(REM, 4, 1, 2), a(MUL, 5, 1, 2)),
                a(SET, 1, LEAST), a(SET, 2, -1), a(DIV, 3, 1, 2), a(SET, 4, 0), a(MUL, 5, 1, 2));
        makes(FOLD, acts(a(SET, 1, 65536), a(MUL, 1, 1, 1), a(MUL, 2, 1, 1)),
                a(SET, 1, 65536), a(MUL, 1, 1, 1), a(SET, 2, 0)); // 2 to the 64th wraps to 0, the 32nd is no int
    }

    private static void foldStops() {
        c.says("(and that is then no STOP)");
        for (int kind : a(DIV, REM)) {
            stays(FOLD, a(SET, 1, 5), a(kind, 2, 1, 0), a(MOVE, 3, 1));
            stays(FOLD, a(kind, 0, 0, 0));
        }
        stays(FOLD, a(SET, 1, -1), a(READ, 2, 1), a(MOVE, 3, 1));
        makes(FOLD, acts(a(SET, 1, 5), a(DIV, 2, 0, 1), a(REM, 3, 0, 1)), a(SET, 1, 5), a(SET, 2, 0), a(SET, 3, 0));
    }

    private static void foldIfs() {
        c.says("an IF whose register is known becomes JUMP to its y, or PASS.");
        makes(FOLD, acts(a(IF, 1, 50), a(SET, 1, 1), a(IF, 1, 50)), a(PASS), a(SET, 1, 1), a(JUMP, 0, 50));
        makes(FOLD, acts(a(SET, 7, LEAST), a(IF, 7, 3), a(IF, 0, 0)), a(SET, 7, LEAST), a(JUMP, 0, 3), a(IF, 0, 0));
        makes(FOLD, acts(a(SET, 1, 65536), a(MUL, 1, 1, 1), a(IF, 1, 2)),
                a(SET, 1, 65536), a(MUL, 1, 1, 1), a(JUMP, 0, 2));
        stays(FOLD, a(READ, 1, 0), a(IF, 1, 0));
        stays(FOLD, a(IF, 1, 2), a(READ, 1, 0), a(JUMP, 0, 0));
    }

    private static void dropKinds() {
        c.says("1 DROP: an act 1 to 5, 8 or 9 whose x is not live ahead of the next PLACE becomes PASS.");
        for (int kind = SET; kind <= ALIKE; kind++) {
            int[] act = a(kind, 3, 1, kind > MOVE ? 2 : 0);
            int[] left = kind == DIV || kind == REM ? act : a(PASS);
            makes(DROP, acts(act, a(OUT, 4)), left, a(OUT, 4));
            stays(DROP, act, a(OUT, 3));
            makes(DROP, acts(act, a(SET, 3, 1), a(OUT, 3)), left, a(SET, 3, 1), a(OUT, 3));
            stays(DROP, a(OUT, 3), act, a(JUMP, 0, 0)); // live by the way back
        }
        stays(DROP, a(READ, 3, 1), a(OUT, 4), a(IF, 4, 50), a(JUMP, 0, 4), a(PASS), a(HALT));
        makes(DROP, acts(a(ADD, 3, 3, 3), a(OUT, 4)), a(PASS), a(OUT, 4)); // live ahead of it, not behind
        stays(DROP, a(SET, 1, 1), a(DIV, 2, 1, 1)); // a DIV asks, though nobody asks for what it makes
        makes(DROP, acts(a(SET, 1, 1), a(MOVE, 2, 1)), a(SET, 1, 1), a(PASS)); // by what the routine was ahead
    }

    private static void dropAtTheEnd() {
        c.says("ahead of the END none is.");
        makes(DROP, acts(a(SET, 1, 1)), a(PASS));
        makes(DROP, times(50, SET, 1, 1), times(50, PASS));
        makes(DROP, acts(a(SET, 1, 1), a(HALT), a(OUT, 1)), a(PASS), a(HALT), a(OUT, 1));
        makes(DROP, acts(a(SET, 1, 1), a(JUMP, 0, 50), a(OUT, 1)), a(PASS), a(JUMP, 0, 50), a(OUT, 1));
        makes(DROP, acts(a(HALT), a(SET, 1, 1)), a(HALT), a(PASS)); // come to or not
    }

    private static void threadBeyond() {
        c.says("2 THREAD: each y of JUMP and IF becomes the PLACE to which it LEADS (the number of the END for what is beyond it)");
        makes(THREAD, acts(a(IF, 1, 50), a(JUMP, 0, 50), a(OUT, 1)), a(IF, 1, 3), a(JUMP, 0, 3), a(OUT, 1));
        makes(THREAD, acts(a(IF, 1, 3), a(JUMP, 0, 4), a(OUT, 1)), a(IF, 1, 3), a(JUMP, 0, 3), a(OUT, 1));
        makes(THREAD, acts(a(JUMP, 0, 2)), a(JUMP, 0, 1));
        stays(THREAD, join(times(49, OUT, 1), a(IF, 1, 50)));
    }

    private static void threadLeads() {
        c.says("a PASS leads to what the next PLACE leads to, a JUMP to what its y leads to, every other PLACE, and the END, to itself");
        makes(THREAD, acts(a(IF, 1, 2), a(OUT, 1), a(PASS), a(JUMP, 0, 5), a(OUT, 2), a(PASS), a(PASS)),
                a(IF, 1, 7), a(OUT, 1), a(PASS), a(JUMP, 0, 7), a(OUT, 2), a(PASS), a(PASS));
        for (int kind = SET; kind <= HALT; kind++) {
            if (kind != JUMP) {
                int[] act = kind == IF ? a(IF, 1, 3) : a(kind, 0, 0, 0);
                makes(THREAD, acts(a(JUMP, 0, 1), a(JUMP, 0, 3), a(OUT, 0), act),
                        a(JUMP, 0, 3), a(JUMP, 0, 3), a(OUT, 0), act);
            }
        }
        makes(THREAD, acts(a(JUMP, 0, 3), a(OUT, 1), a(HALT), a(JUMP, 0, 1), a(IF, 1, 0)),
                a(JUMP, 0, 1), a(OUT, 1), a(HALT), a(JUMP, 0, 1), a(IF, 1, 1)); // backwards, and PLACE 0
        stays(THREAD, a(SET, 1, 2), a(SET, 2, 50), a(MOVE, 1, 2), a(READ, 1, 2), a(PASS), a(HALT), a(OUT, 1)); // no JUMP
    }

    private static void threadEndless() {
        c.says("a PLACE that would lead on without end leads to itself.");
        stays(THREAD, a(JUMP, 0, 0));
        stays(THREAD, a(PASS), a(JUMP, 0, 0));
        stays(THREAD, a(IF, 1, 2), a(JUMP, 0, 3), a(PASS), a(JUMP, 0, 4), a(JUMP, 0, 3));
        int[][] ring = new int[50][];
        for (int place = 0; place < 50; place++) {
            ring[place] = a(JUMP, 0, (place + 1) % 50);
        }
        stays(THREAD, ring);
        c.due("PAIRS", x.count(1), 51);
    }

    private static void packPlaces() {
        c.says("each y of JUMP and IF becomes less by as many PASSES as were ahead of it");
        makes(PACK, acts(a(PASS), a(JUMP, 0, 0), a(PASS), a(IF, 1, 1), a(IF, 1, 2), a(IF, 1, 3), a(PASS)),
                a(JUMP, 0, 0), a(IF, 1, 0), a(IF, 1, 1), a(IF, 1, 1));
        c.says("(one that was its END or beyond is the new END)");
        makes(PACK, acts(a(PASS), a(IF, 1, 4), a(JUMP, 0, 5), a(PASS)), a(IF, 1, 2), a(JUMP, 0, 2));
        makes(PACK, acts(a(IF, 1, 2), a(JUMP, 0, 50)), a(IF, 1, 2), a(JUMP, 0, 2));
        makes(PACK, join(times(49, PASS), a(IF, 1, 50)), a(IF, 1, 1));
        makes(PACK, join(times(49, PASS), a(IF, 1, 48)), a(IF, 1, 0)); // a PASS becomes what is behind it
        makes(PACK, acts(a(SET, 1, 4), a(PASS), a(SET, 2, 50), a(MOVE, 7, 6), a(ADD, 7, 6, 5)),
                a(SET, 1, 4), a(SET, 2, 50), a(MOVE, 7, 6), a(ADD, 7, 6, 5)); // y of others is no PLACE
    }

    private static void packAll() {
        c.says("3 PACK: PASSES are left out");
        makes(PACK, acts(a(PASS)));
        makes(PACK, times(50, PASS));
        stays(PACK, a(OUT, 1), a(IF, 1, 0), a(HALT));
        makes(PACK, acts(a(PASS), a(OUT, 1), a(PASS)), a(OUT, 1));
    }

    private static void foldWitness() {
        c.says("for each PLACE that is come to, by rising ones, the END too, the PAIR of it and itself, MODE 0, MEASURE 0, "
                + "each register claimed as known (2) or the same (1).");
        only(a(SET, 7, LEAST), a(JUMP, 0, 3), a(OUT, 0), a(READ, 0, 7), a(MUL, 7, 7, 7));
        x.act(0, JUMP, 0, 50, 0);
        c.due("PASS", x.pass(0, FOLD), 1);
        c.due("PAIRS", x.count(1), 3); // the READ below 0 stops
        only(a(SET, 7, LEAST), a(JUMP, 0, 3), a(OUT, 0), a(READ, 0, 1), a(MUL, 7, 7, 7), a(JUMP, 0, 50), a(PASS));
        c.due("PASS", x.pass(0, FOLD), 1);
        c.due("PAIRS", x.count(1), 6);
        int[] places = {0, 1, 3, 4, 5, 7};
        long[] sevens = {0, LEAST, LEAST, LEAST, 1L << 62, 1L << 62};
        for (int pair = 0; pair < 6; pair++) {
            int[] claims = KNOWN.clone();
            claims[0] = pair > 2 ? 1 : 2;
            c.pair("FOLD", x, pair, a(places[pair], places[pair], 0, 0), claims);
            c.due("number of 7", x.number(pair, 7), sevens[pair]);
            c.due("number of 0", x.number(pair, 0), 0);
        }
        taken("FOLD");
    }

    private static void foldWitnessEnd() {
        c.says("for each PLACE that is come to, by rising ones, the END too");
        only(a(JUMP, 0, 0));
        x.pass(0, FOLD);
        c.due("an END that is not come to", x.count(1), 1);
        taken("endless");
        only(a(HALT));
        x.pass(0, FOLD);
        c.due("an END that is come to", x.count(1), 2);
        c.pair("the END", x, 1, a(1, 1, 0, 0), KNOWN);
        only(a(DIV, 1, 1, 1), a(OUT, 1));
        x.pass(0, FOLD);
        c.due("behind a STOP", x.count(1), 1);
        taken("a STOP");
    }

    private static void dropWitness() {
        c.says("Of DROP: for each PLACE, by rising ones, the END too, likewise, claims 1 of what is live ahead of it, else 0.");
        only(a(SET, 0, 5), a(HALT), a(ADD, 7, 0, 7), a(OUT, 7));
        c.due("PASS", x.pass(0, DROP), 1);
        c.due("PAIRS, come to or not", x.count(1), 5);
        c.pair("0", x, 0, a(0, 0, 0, 0), 0, 0, 0, 0, 0, 0, 0, 0);
        c.pair("1", x, 1, a(1, 1, 0, 0), 0, 0, 0, 0, 0, 0, 0, 0);
        c.pair("2", x, 2, a(2, 2, 0, 0), 1, 0, 0, 0, 0, 0, 0, 1);
        c.pair("3", x, 3, a(3, 3, 0, 0), 0, 0, 0, 0, 0, 0, 0, 1);
        c.pair("END", x, 4, a(4, 4, 0, 0), 0, 0, 0, 0, 0, 0, 0, 0);
        taken("DROP");
    }

    private static void threadWitness() {
        c.says("Of THREAD: for each PLACE, by rising ones, the END too, likewise, all claims 1");
        only(a(PASS), a(JUMP, 0, 4), a(OUT, 1), a(JUMP, 0, 3), a(JUMP, 0, 6), a(HALT), a(PASS));
        c.due("PASS", x.pass(0, THREAD), 1);
        c.due("PAIRS", x.count(1), 8 + 4);
        for (int place = 0; place <= 7; place++) {
            c.pair("itself", x, place, a(place, place, 0, 0), SAME);
        }
        c.says("then for each PLACE p (not the END), by rising ones, that leads to another PLACE q, the PAIR of p and q, "
                + "MODE 1, all claims 1, the MEASURE how many steps it is to lead from p to q.");
        c.pair("0", x, 8, a(0, 7, 1, 4), SAME);
        c.pair("1", x, 9, a(1, 7, 1, 3), SAME);
        c.pair("4", x, 10, a(4, 7, 1, 2), SAME);
        c.pair("6", x, 11, a(6, 7, 1, 1), SAME);
        taken("THREAD");
        only(a(JUMP, 0, 0), a(JUMP, 0, 0), a(PASS), a(JUMP, 0, 2));
        x.pass(0, THREAD);
        c.due("none that leads on without end", x.count(1), 5);
        taken("endless");
    }

    private static void longestThread() {
        c.says("the MEASURE how many steps it is to lead from p to q.");
        for (int kind : a(PASS, JUMP)) {
            int[][] row = new int[50][];
            for (int place = 0; place < 50; place++) {
                row[place] = kind == PASS ? a(PASS) : a(JUMP, 0, place + 1);
            }
            only(row);
            c.due("PASS", x.pass(0, THREAD), 1);
            c.due("PAIRS", x.count(1), 101);
            for (int place = 0; place < 50; place++) {
                c.due("steps", x.of(51 + place, 3), 50 - place);
            }
            c.pair("of the first", x, 51, a(0, 50, 1, 50), SAME);
            c.pair("of the last", x, 100, a(49, 50, 1, 1), SAME);
            taken("the longest way");
        }
        int[][] back = new int[50][];
        for (int place = 1; place < 50; place++) {
            back[place] = a(JUMP, 0, place - 1);
        }
        back[0] = a(OUT, 1);
        only(back);
        x.pass(0, THREAD);
        c.due("PAIRS", x.count(1), 100);
        c.pair("from the last to the first", x, 99, a(49, 0, 1, 49), SAME);
        taken("the longest way back");
    }

    private static void packWitness() {
        c.says("Of PACK: for each PLACE, by rising ones, the END too, the PAIR of it and of the PLACE that it becomes, "
                + "all claims 1; of a PASS MODE 1, the MEASURE how many PASSES are there in a row, others MODE 0, MEASURE 0.");
        only(a(PASS), a(OUT, 1), a(PASS), a(PASS), a(PASS), a(JUMP, 0, 2), a(PASS), a(PASS));
        c.due("PASS", x.pass(0, PACK), 1);
        c.due("PAIRS", x.count(1), 9);
        int[] becomes = {0, 0, 1, 1, 1, 1, 2, 2, 2};
        int[] rows = {1, 0, 3, 2, 1, 0, 2, 1, 0};
        for (int place = 0; place <= 8; place++) {
            c.pair("PACK", x, place, a(place, becomes[place], rows[place] > 0 ? 1 : 0, rows[place]), SAME);
        }
        taken("PACK");
        only(times(50, PASS));
        x.pass(0, PACK);
        c.due("PAIRS", x.count(1), 51);
        c.pair("the longest row", x, 0, a(0, 0, 1, 50), SAME);
        c.pair("its last", x, 49, a(49, 0, 1, 1), SAME);
        c.pair("the END", x, 50, a(50, 0, 0, 0), SAME);
        taken("PACK of PASSES");
    }

    private static void emptyRoutine() {
        c.says("Of DROP: for each PLACE, by rising ones, the END too");
        int[] claims = {2, 0, 1, 1};
        for (int which = FOLD; which <= PACK; which++) {
            makes(which, acts());
            c.due("PAIRS", x.count(1), 1);
            int k = claims[which];
            c.pair("the END", x, 0, a(0, 0, 0, 0), k, k, k, k, k, k, k, k);
        }
    }

    private static void fullRoutines() {
        c.says("PASSES make of a routine another one, a new ROUTINE of the same acts");
        int[][] full = new int[50][];
        for (int place = 0; place < 50; place++) {
            full[place] = place % 2 == 0 ? a(OUT, place % 8) : a(READ, place % 8, 7);
        }
        for (int which = FOLD; which <= PACK; which++) {
            stays(which, full);
            c.due("PAIRS", x.count(1), 51);
        }
    }

    private static void best(int[][] from, int[]... to) {
        only(from);
        c.due("best", x.best(0), 1);
        c.acts("best", x, 1, to);
        c.acts("what it was made of", x, 0, from);
        c.due("the others are none", x.count(0), 2);
        for (int which = FOLD; which <= PACK; which++) {
            c.due("PASS", x.pass(1, which), 2 + which);
            c.due("changes nothing more", x.same(1, 2 + which), 1);
        }
    }

    private static void bestUntilNothing() {
        c.says("again and again, until all four change nothing: the last one is a new routine, the others are none; its number.");
        best(acts());
        best(acts(a(OUT, 1)), a(OUT, 1));
        best(times(50, PASS));
        best(times(50, OUT, 3), times(50, OUT, 3));
        best(acts(a(JUMP, 0, 0)), a(JUMP, 0, 0));
        best(acts(a(PASS), a(JUMP, 0, 0)), a(JUMP, 0, 0));
        // All four change something in the first round, and the second finds more to change.
        best(acts(a(SET, 1, 4), a(MOVE, 2, 1), a(READ, 3, 0), a(ADD, 4, 3, 2), a(ADD, 5, 4, 3), a(OUT, 3), a(JUMP, 0, 50),
                a(PASS)), a(READ, 3, 0), a(OUT, 3), a(JUMP, 0, 3));
        // Each round drops the last of the acts of which no other asks.
        int[][] chain = new int[50][];
        chain[0] = a(READ, 0, 0);
        for (int place = 1; place < 49; place++) {
            chain[place] = a(ADD, 1 + place % 7, place == 1 ? 0 : 1 + (place - 1) % 7, 0);
        }
        chain[49] = a(OUT, 0);
        best(chain, a(READ, 0, 0), a(OUT, 0));
        best(acts(a(READ, 1, 0), a(IF, 1, 4), a(SET, 2, 3), a(JUMP, 0, 5), a(SET, 2, 3), a(ADD, 3, 2, 2), a(OUT, 3)),
                a(READ, 1, 0), a(IF, 1, 3), a(JUMP, 0, 3), a(SET, 3, 6), a(OUT, 3));
    }

    private static void bestOrder() {
        c.says("FOLD, DROP, THREAD, PACK one behind the other, each of what the one before made");
        int[][] from = {a(SET, 1, 1), a(IF, 1, 4), a(OUT, 2), a(HALT), a(PASS), a(ADD, 2, 1, 1), a(OUT, 2), a(JUMP, 0, 9)};
        only(from);
        int made = 0;
        int again;
        do {
            again = made;
            for (int which = FOLD; which <= PACK; which++) {
                made = x.pass(made, which);
            }
        } while (x.same(again, made) == 0);
        c.due("best", x.best(0), made + 1);
        c.due("as by hand", x.same(made, made + 1), 1);
        c.acts("best", x, made + 1, a(JUMP, 0, 3), a(OUT, 2), a(HALT), a(SET, 2, 2), a(OUT, 2), a(JUMP, 0, 6));
    }

    private static void bestKeeps() {
        c.says("(The WITNESS stays.)");
        only(a(PASS), a(OUT, 1));
        x.pass(0, PACK);
        x.claim(0, 3, 2, 77);
        c.due("best", x.best(0), 2);
        c.due("PAIRS", x.count(1), 3);
        c.due("claim", x.of(0, 7), 2);
        c.due("number", x.number(0, 3), 77);
        c.pair("a PAIR of the PASS", x, 1, a(1, 0, 0, 0), SAME);
        x.clear();
        c.due("best", x.best(0), 3);
        c.due("no PAIR", x.count(1), 0);
    }
}
