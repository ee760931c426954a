/** What every test shares: it prints each answer that is not due, and ends with exit code 1 if there was one. */
final class Checks {
    static final int PASS = 0, SET = 1, MOVE = 2, ADD = 3, SUB = 4, MUL = 5, DIV = 6, REM = 7, LESS = 8, ALIKE = 9,
            READ = 10, OUT = 11, JUMP = 12, IF = 13, HALT = 14;
    static final int FOLD = 0, DROP = 1, THREAD = 2, PACK = 3;

    private final String title;
    private int wrong = 0;
    private int asked = 0;
    /** The words of the document that are being tested; told with each answer that is not due. */
    private String words = "";

    Checks(String title) {
        this.title = title;
    }

    void says(String quote) {
        words = ", for the document says: " + quote;
    }

    void due(String what, long got, long want) {
        asked++;
        if (got != want) {
            wrong++;
            if (wrong <= 40) {
                System.out.println(title + ": " + what + " answered " + got + ", due is " + want + words);
            }
        }
    }

    /** A routine of the acts given as rows of kind, x, y, z, of which those at the end may be left out. */
    int make(PassCourt court, int[]... acts) {
        int routine = court.routine();
        for (int place = 0; place < acts.length; place++) {
            int[] a = java.util.Arrays.copyOf(acts[place], 4);
            due("act " + place, court.act(routine, a[0], a[1], a[2], a[3]), place);
        }
        return routine;
    }

    /** The acts of a routine are these. */
    void acts(String what, PassCourt court, int routine, int[]... acts) {
        due(what + ": length", court.length(routine), acts.length);
        for (int place = 0; place < acts.length; place++) {
            int[] a = java.util.Arrays.copyOf(acts[place], 4);
            for (int i = 0; i < 4; i++) {
                due(what + ": at(" + place + ", " + i + ")", court.at(routine, place, i), a[i]);
            }
        }
    }

    /** A PAIR is of these places, mode and measure, and claims these. */
    void pair(String what, PassCourt court, int pair, int[] head, int... claims) {
        for (int i = 0; i < 4; i++) {
            due(what + ": of(" + pair + ", " + i + ")", court.of(pair, i), head[i]);
        }
        for (int r = 0; r < 8; r++) {
            due(what + ": claim " + r + " of " + pair, court.of(pair, 4 + r), claims[r]);
        }
    }

    static int[] a(int... numbers) {
        return numbers;
    }

    void finish() {
        System.out.println(title + ": " + asked + " answers, " + wrong + " not as due");
        if (wrong != 0) {
            System.exit(1);
        }
    }
}
