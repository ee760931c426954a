/** A court for passes: runs routines, makes them better by passes, and judges the witness of each pass. */
public final class PassCourt {
    private static final int REFUSED = -2;
    private static final int NO_ACT = -2000000000;
    private static final int MOST_ROUTINES = 40;
    private static final int MOST_ACTS = 50;
    /** The END of the longest routine is a PLACE too. */
    private static final int PLACES = MOST_ACTS + 1;
    private static final int REGISTERS = 8;
    private static final int MOST_FEED = 16;
    private static final int MOST_TOLD = 200;
    private static final int MOST_FUEL = 100000;
    private static final int MOST_PAIRS = 200;
    private static final int MOST_MEASURE = 1000;
    /** Each round but the last changes one of some 500 things for good, so no search needs as many rounds. */
    private static final int MANY_ROUNDS = 10000;

    private static final int FOLD = 0;
    private static final int DROP = 1;
    private static final int THREAD = 2;
    private static final int PACK = 3;

    private static final int BOTH = 0;
    private static final int FIRST_ALONE = 1;
    private static final int SECOND_ALONE = 2;

    private static final int NO_CLAIM = 0;
    private static final int CLAIM_SAME = 1;
    private static final int CLAIM_NUMBER = 2;

    private final Routine[] routines;
    private int routineCount;
    private final Knowledge knowledge;
    private final Liveness liveness;
    private final Passes passes;
    private final Runner runner;
    private final Witness witness;
    private final Judge court;

    public PassCourt() {
        routines = new Routine[MOST_ROUTINES];
        for (int i = 0; i < MOST_ROUTINES; i++) {
            routines[i] = new Routine();
        }
        routineCount = 0;
        knowledge = new Knowledge();
        liveness = new Liveness();
        passes = new Passes(knowledge, liveness);
        runner = new Runner();
        witness = new Witness();
        court = new Judge(witness);
    }

    public int routine() {
        if (routineCount >= MOST_ROUTINES) {
            return REFUSED;
        }
        return routineCount++;
    }

    public int act(int routine, int kind, int x, int y, int z) {
        Routine found = find(routine);
        if (found == null || found.size >= MOST_ACTS || !Code.isAct(kind, x, y, z)) {
            return REFUSED;
        }
        return found.append(kind, x, y, z);
    }

    public int at(int routine, int place, int what) {
        Routine found = find(routine);
        if (found == null || place < 0 || place >= found.size) {
            return NO_ACT;
        }
        switch (what) {
            case 0:
                return found.kinds[place];
            case 1:
                return found.xs[place];
            case 2:
                return found.ys[place];
            case 3:
                return found.zs[place];
            default:
                return NO_ACT;
        }
    }

    public int length(int routine) {
        Routine found = find(routine);
        return found == null ? REFUSED : found.size;
    }

    public int pass(int routine, int which) {
        Routine from = find(routine);
        if (from == null || which < FOLD || which > PACK || routineCount >= MOST_ROUTINES) {
            return REFUSED;
        }
        passes.study(from, which);
        passes.make(from, routines[routineCount], which);
        passes.testify(from, witness, which);
        return routineCount++;
    }

    public int best(int routine) {
        Routine from = find(routine);
        if (from == null || routineCount >= MOST_ROUTINES) {
            return REFUSED;
        }
        passes.improve(from, routines[routineCount]);
        return routineCount++;
    }

    public int same(int a, int b) {
        Routine first = find(a);
        Routine second = find(b);
        if (first == null || second == null) {
            return REFUSED;
        }
        return first.hasActsOf(second) ? 1 : 0;
    }

    public int known(int routine, int place, int register) {
        Routine found = findWith(routine, place, register);
        if (found == null) {
            return REFUSED;
        }
        knowledge.study(found);
        if (!knowledge.comeTo[place]) {
            return -1;
        }
        return knowledge.isKnown(place, register) ? 1 : 0;
    }

    public long value(int routine, int place, int register) {
        Routine found = findWith(routine, place, register);
        if (found == null) {
            return 0;
        }
        knowledge.study(found);
        return knowledge.isKnown(place, register) ? knowledge.numberIn(place, register) : 0;
    }

    public int live(int routine, int place, int register) {
        Routine found = findWith(routine, place, register);
        if (found == null) {
            return REFUSED;
        }
        liveness.study(found);
        return liveness.isLive(place, register) ? 1 : 0;
    }

    public int feed(long v) {
        return runner.addToFeed(v) ? runner.feedSize : REFUSED;
    }

    public int dry() {
        int had = runner.feedSize;
        runner.feedSize = 0;
        return had;
    }

    public int run(int routine, int fuel) {
        Routine found = find(routine);
        if (found == null || fuel < 0 || fuel > MOST_FUEL) {
            return REFUSED;
        }
        return runner.go(found, fuel);
    }

    public int outs() {
        return runner.given;
    }

    public long out(int i) {
        if (i < 0 || i >= runner.given || i >= MOST_TOLD) {
            return 0;
        }
        return runner.told[i];
    }

    public int ran(int what) {
        switch (what) {
            case 0:
                return runner.done;
            case 1:
                return runner.place;
            default:
                return REFUSED;
        }
    }

    public long register(int x) {
        return Code.isRegister(x) ? runner.registers[x] : 0;
    }

    public int clear() {
        int had = witness.size;
        witness.size = 0;
        return had;
    }

    public int pair(int first, int second, int mode, int measure) {
        if (!Code.isPlace(first) || !Code.isPlace(second) || mode < BOTH || mode > SECOND_ALONE) {
            return REFUSED;
        }
        if (measure < 0 || measure > MOST_MEASURE || witness.size >= MOST_PAIRS) {
            return REFUSED;
        }
        return witness.append(first, second, mode, measure);
    }

    public int claim(int pair, int register, int claim, long number) {
        if (!witness.hasPair(pair) || !Code.isRegister(register) || claim < NO_CLAIM || claim > CLAIM_NUMBER) {
            return REFUSED;
        }
        int was = witness.claimOn(pair, register);
        witness.setClaim(pair, register, claim, number);
        return was;
    }

    public int of(int pair, int what) {
        if (!witness.hasPair(pair) || what < 0 || what >= 4 + REGISTERS) {
            return REFUSED;
        }
        switch (what) {
            case 0:
                return witness.firsts[pair];
            case 1:
                return witness.seconds[pair];
            case 2:
                return witness.modes[pair];
            case 3:
                return witness.measures[pair];
            default:
                return witness.claimOn(pair, what - 4);
        }
    }

    public long number(int pair, int register) {
        if (!witness.hasPair(pair) || !Code.isRegister(register)) {
            return 0;
        }
        return witness.numberOn(pair, register);
    }

    public int judge(int a, int b) {
        Routine first = find(a);
        Routine second = find(b);
        if (first == null || second == null) {
            court.faultyPair = -1;
            return REFUSED;
        }
        return court.hear(first, second);
    }

    public int where() {
        return court.faultyPair;
    }

    public int count(int what) {
        switch (what) {
            case 0:
                return routineCount;
            case 1:
                return witness.size;
            case 2:
                return runner.feedSize;
            default:
                return REFUSED;
        }
    }

    private Routine find(int number) {
        return number >= 0 && number < routineCount ? routines[number] : null;
    }

    /** The routine, if it has the PLACE (the END too) and there is such a register. */
    private Routine findWith(int number, int place, int register) {
        Routine found = find(number);
        if (found == null || !found.hasPlace(place) || !Code.isRegister(register)) {
            return null;
        }
        return found;
    }

    /** The KINDS of acts, and what holds of each by its KIND and numbers alone. */
    private static final class Code {
        static final int PASS = 0;
        static final int SET = 1;
        static final int MOVE = 2;
        static final int ADD = 3;
        static final int SUB = 4;
        static final int MUL = 5;
        static final int DIV = 6;
        static final int REM = 7;
        static final int LESS = 8;
        static final int ALIKE = 9;
        static final int READ = 10;
        static final int OUT = 11;
        static final int JUMP = 12;
        static final int IF = 13;
        static final int HALT = 14;

        static boolean isRegister(int number) {
            return number >= 0 && number < REGISTERS;
        }

        static boolean isPlace(int number) {
            return number >= 0 && number < PLACES;
        }

        static boolean isAct(int kind, int x, int y, int z) {
            switch (kind) {
                case PASS:
                case HALT:
                    return x == 0 && y == 0 && z == 0;
                case SET:
                    return isRegister(x) && z == 0;
                case MOVE:
                case READ:
                    return isRegister(x) && isRegister(y) && z == 0;
                case OUT:
                    return isRegister(x) && y == 0 && z == 0;
                case JUMP:
                    return x == 0 && isPlace(y) && z == 0;
                case IF:
                    return isRegister(x) && isPlace(y) && z == 0;
                default:
                    return isReckoning(kind) && isRegister(x) && isRegister(y) && isRegister(z);
            }
        }

        /** Whether x becomes what comes of two registers. */
        static boolean isReckoning(int kind) {
            return kind >= ADD && kind <= ALIKE;
        }

        static boolean isDivision(int kind) {
            return kind == DIV || kind == REM;
        }

        static boolean makesX(int kind) {
            return kind >= SET && kind <= READ;
        }

        static boolean goesToNext(int kind) {
            return kind != JUMP && kind != HALT;
        }

        static boolean goesToY(int kind) {
            return kind == JUMP || kind == IF;
        }

        /** What comes of two numbers; nobody asks it of a division by 0, which stops. */
        static long reckon(int kind, long y, long z) {
            switch (kind) {
                case ADD:
                    return y + z;
                case SUB:
                    return y - z;
                case MUL:
                    return y * z;
                case DIV:
                    return z == 0 ? 0 : y / z;
                case REM:
                    return z == 0 ? 0 : y % z;
                case LESS:
                    return y < z ? 1 : 0;
                case ALIKE:
                    return y == z ? 1 : 0;
                default:
                    return 0;
            }
        }
    }

    /** A row of acts; every act in it has passed Code.isAct. */
    private static final class Routine {
        final int[] kinds;
        final int[] xs;
        final int[] ys;
        final int[] zs;
        int size;

        Routine() {
            kinds = new int[MOST_ACTS];
            xs = new int[MOST_ACTS];
            ys = new int[MOST_ACTS];
            zs = new int[MOST_ACTS];
            size = 0;
        }

        boolean hasPlace(int place) {
            return place >= 0 && place <= size;
        }

        /** The PLACE that a number means in this routine: what is beyond its END is its END. */
        int placeFor(int number) {
            return number < size ? number : size;
        }

        /** The PLACE to which the JUMP or IF at a place goes. */
        int target(int place) {
            return placeFor(ys[place]);
        }

        int append(int kind, int x, int y, int z) {
            int place = size;
            size++;
            put(place, kind, x, y, z);
            return place;
        }

        void put(int place, int kind, int x, int y, int z) {
            kinds[place] = kind;
            xs[place] = x;
            ys[place] = y;
            zs[place] = z;
        }

        void copyFrom(Routine other) {
            for (int place = 0; place < other.size; place++) {
                put(place, other.kinds[place], other.xs[place], other.ys[place], other.zs[place]);
            }
            size = other.size;
        }

        boolean hasActsOf(Routine other) {
            if (size != other.size) {
                return false;
            }
            for (int place = 0; place < size; place++) {
                if (kinds[place] != other.kinds[place] || xs[place] != other.xs[place]
                        || ys[place] != other.ys[place] || zs[place] != other.zs[place]) {
                    return false;
                }
            }
            return true;
        }
    }

    /** Which PLACES of a routine are come to, and what is KNOWN ahead of each. */
    private static final class Knowledge {
        final boolean[] comeTo;
        private final boolean[] knowns;
        private final long[] numbers;
        /** PLACES from which the ways on must be gone (again). */
        private final boolean[] waiting;
        private boolean someWait;
        private final boolean[] knownsBehind;
        private final long[] numbersBehind;

        Knowledge() {
            comeTo = new boolean[PLACES];
            knowns = new boolean[PLACES * REGISTERS];
            numbers = new long[PLACES * REGISTERS];
            waiting = new boolean[PLACES];
            someWait = false;
            knownsBehind = new boolean[REGISTERS];
            numbersBehind = new long[REGISTERS];
        }

        boolean isKnown(int place, int register) {
            return knowns[place * REGISTERS + register];
        }

        long numberIn(int place, int register) {
            return numbers[place * REGISTERS + register];
        }

        boolean isKnownAsZero(int place, int register) {
            int i = place * REGISTERS + register;
            return knowns[i] && numbers[i] == 0;
        }

        void study(Routine routine) {
            begin();
            for (int round = 0; round < MANY_ROUNDS && someWait; round++) {
                someWait = false;
                for (int place = 0; place < routine.size; place++) {
                    if (waiting[place]) {
                        waiting[place] = false;
                        goOn(routine, place);
                    }
                }
            }
        }

        private void begin() {
            for (int place = 0; place < PLACES; place++) {
                comeTo[place] = false;
                waiting[place] = false;
            }
            for (int i = 0; i < PLACES * REGISTERS; i++) {
                knowns[i] = i < REGISTERS;
                numbers[i] = 0;
            }
            comeTo[0] = true;
            waiting[0] = true;
            someWait = true;
        }

        private void goOn(Routine routine, int place) {
            if (stopsSurely(routine, place)) {
                return;
            }
            int kind = routine.kinds[place];
            keepAhead(place);
            if (Code.makesX(kind)) {
                boolean told = knowsResult(routine, place);
                knownsBehind[routine.xs[place]] = told;
                numbersBehind[routine.xs[place]] = told ? resultOf(routine, place) : 0;
            }
            boolean decided = kind == Code.IF && isKnown(place, routine.xs[place]);
            boolean falls = decided && numberIn(place, routine.xs[place]) == 0;
            if (Code.goesToNext(kind) && (!decided || falls)) {
                arrive(place + 1);
            }
            if (Code.goesToY(kind) && (!decided || !falls)) {
                arrive(routine.target(place));
            }
            if (kind == Code.HALT) {
                arrive(routine.size);
            }
        }

        private boolean stopsSurely(Routine routine, int place) {
            int kind = routine.kinds[place];
            if (Code.isDivision(kind)) {
                return isKnownAsZero(place, routine.zs[place]);
            }
            int y = routine.ys[place];
            return kind == Code.READ && isKnown(place, y) && numberIn(place, y) < 0;
        }

        /** What an act does not make is behind it as ahead of it. */
        private void keepAhead(int place) {
            for (int register = 0; register < REGISTERS; register++) {
                knownsBehind[register] = isKnown(place, register);
                numbersBehind[register] = numberIn(place, register);
            }
        }

        /** Whether the act at a place makes x, and x is known behind it. */
        boolean knowsResult(Routine routine, int place) {
            int kind = routine.kinds[place];
            if (kind == Code.SET) {
                return true;
            }
            if (kind == Code.MOVE) {
                return isKnown(place, routine.ys[place]);
            }
            if (!Code.isReckoning(kind)) {
                return false;
            }
            int z = routine.zs[place];
            boolean stops = Code.isDivision(kind) && isKnownAsZero(place, z);
            return !stops && isKnown(place, routine.ys[place]) && isKnown(place, z);
        }

        /** As what x is known behind an act of which knowsResult() holds. */
        long resultOf(Routine routine, int place) {
            int kind = routine.kinds[place];
            int y = routine.ys[place];
            if (kind == Code.SET) {
                return y;
            }
            if (kind == Code.MOVE) {
                return numberIn(place, y);
            }
            return Code.reckon(kind, numberIn(place, y), numberIn(place, routine.zs[place]));
        }

        /** A way leads to this place, with what is known behind the act that was looked at. */
        private void arrive(int place) {
            boolean isNew = !comeTo[place];
            boolean changed = isNew;
            for (int register = 0; register < REGISTERS; register++) {
                int i = place * REGISTERS + register;
                if (isNew) {
                    knowns[i] = knownsBehind[register];
                    numbers[i] = numbersBehind[register];
                } else if (knowns[i] && !(knownsBehind[register] && numbersBehind[register] == numbers[i])) {
                    knowns[i] = false;
                    numbers[i] = 0;
                    changed = true;
                }
            }
            comeTo[place] = true;
            if (changed) {
                waiting[place] = true;
                someWait = true;
            }
        }
    }

    /** Which registers are LIVE ahead of each PLACE of a routine: a bit for each register. */
    private static final class Liveness {
        private final int[] masks;

        Liveness() {
            masks = new int[PLACES];
        }

        boolean isLive(int place, int register) {
            return (masks[place] >> register & 1) == 1;
        }

        void study(Routine routine) {
            for (int place = 0; place < PLACES; place++) {
                masks[place] = 0;
            }
            boolean changed = true;
            for (int round = 0; round < MANY_ROUNDS && changed; round++) {
                changed = false;
                for (int place = routine.size - 1; place >= 0; place--) {
                    int mask = maskAhead(routine, place);
                    changed = changed || mask != masks[place];
                    masks[place] = mask;
                }
            }
        }

        private int maskAhead(Routine routine, int place) {
            int kind = routine.kinds[place];
            int mask = 0;
            if (Code.goesToNext(kind)) {
                mask |= masks[place + 1];
            }
            if (Code.goesToY(kind)) {
                mask |= masks[routine.target(place)];
            }
            if (Code.makesX(kind)) {
                mask &= ~(1 << routine.xs[place]);
            }
            return mask | askedBy(routine, place);
        }

        private static int askedBy(Routine routine, int place) {
            int kind = routine.kinds[place];
            if (kind == Code.OUT || kind == Code.IF) {
                return 1 << routine.xs[place];
            }
            if (kind == Code.MOVE || kind == Code.READ) {
                return 1 << routine.ys[place];
            }
            if (Code.isReckoning(kind)) {
                return 1 << routine.ys[place] | 1 << routine.zs[place];
            }
            return 0;
        }
    }

    /** To which PLACE each PLACE of a routine LEADS over PASSES and JUMPS, and in how many steps. */
    private static final class Leads {
        final int[] ends;
        final int[] steps;

        Leads() {
            ends = new int[PLACES];
            steps = new int[PLACES];
        }

        void study(Routine routine) {
            for (int place = 0; place <= routine.size; place++) {
                follow(routine, place);
            }
        }

        private void follow(Routine routine, int start) {
            int place = start;
            int taken = 0;
            while (taken <= routine.size && leadsOn(routine, place)) {
                place = routine.kinds[place] == Code.JUMP ? routine.target(place) : place + 1;
                taken++;
            }
            // More steps than there are acts: an act came twice, so this would lead on without end.
            boolean endless = taken > routine.size;
            ends[start] = endless ? start : place;
            steps[start] = endless ? 0 : taken;
        }

        private static boolean leadsOn(Routine routine, int place) {
            return place < routine.size
                    && (routine.kinds[place] == Code.PASS || routine.kinds[place] == Code.JUMP);
        }
    }

    /** The four PASSES and the WITNESS of each: study() a routine for a PASS ahead of make() and testify(). */
    private static final class Passes {
        private final Knowledge knowledge;
        private final Liveness liveness;
        private final Leads leads;
        /** How many PASSES of the routine studied for PACK are ahead of each PLACE. */
        private final int[] passesAhead;
        private final Routine before;
        private final Routine after;

        Passes(Knowledge knowledge, Liveness liveness) {
            this.knowledge = knowledge;
            this.liveness = liveness;
            leads = new Leads();
            passesAhead = new int[PLACES];
            before = new Routine();
            after = new Routine();
        }

        void study(Routine from, int which) {
            switch (which) {
                case FOLD:
                    knowledge.study(from);
                    break;
                case DROP:
                    liveness.study(from);
                    break;
                case THREAD:
                    leads.study(from);
                    break;
                default:
                    countPasses(from);
                    break;
            }
        }

        void make(Routine from, Routine to, int which) {
            switch (which) {
                case FOLD:
                    fold(from, to);
                    break;
                case DROP:
                    drop(from, to);
                    break;
                case THREAD:
                    thread(from, to);
                    break;
                default:
                    pack(from, to);
                    break;
            }
        }

        void testify(Routine from, Witness witness, int which) {
            witness.size = 0;
            switch (which) {
                case FOLD:
                    testifyFold(from, witness);
                    break;
                case DROP:
                    testifyDrop(from, witness);
                    break;
                case THREAD:
                    testifyThread(from, witness);
                    break;
                default:
                    testifyPack(from, witness);
                    break;
            }
        }

        /** All four, again and again, until none of them changes anything. */
        void improve(Routine from, Routine to) {
            before.copyFrom(from);
            boolean changed = true;
            for (int round = 0; round < MANY_ROUNDS && changed; round++) {
                changed = false;
                for (int which = FOLD; which <= PACK; which++) {
                    study(before, which);
                    make(before, after, which);
                    changed = changed || !after.hasActsOf(before);
                    before.copyFrom(after);
                }
            }
            to.copyFrom(before);
        }

        private void fold(Routine from, Routine to) {
            to.copyFrom(from);
            for (int place = 0; place < from.size; place++) {
                if (knowledge.comeTo[place]) {
                    foldAct(from, to, place);
                }
            }
        }

        private void foldAct(Routine from, Routine to, int place) {
            int kind = from.kinds[place];
            int x = from.xs[place];
            if (kind == Code.IF && knowledge.isKnown(place, x)) {
                if (knowledge.isKnownAsZero(place, x)) {
                    to.put(place, Code.PASS, 0, 0, 0);
                } else {
                    to.put(place, Code.JUMP, 0, from.ys[place], 0);
                }
            }
            if ((kind == Code.MOVE || Code.isReckoning(kind)) && knowledge.knowsResult(from, place)) {
                long result = knowledge.resultOf(from, place);
                if (result == (int) result) {
                    to.put(place, Code.SET, x, (int) result, 0);
                }
            }
        }

        private void testifyFold(Routine from, Witness witness) {
            for (int place = 0; place <= from.size; place++) {
                if (knowledge.comeTo[place]) {
                    int pair = witness.append(place, place, BOTH, 0);
                    for (int register = 0; register < REGISTERS; register++) {
                        boolean told = knowledge.isKnown(place, register);
                        witness.setClaim(pair, register, told ? CLAIM_NUMBER : CLAIM_SAME,
                                knowledge.numberIn(place, register));
                    }
                }
            }
        }

        private void drop(Routine from, Routine to) {
            to.copyFrom(from);
            for (int place = 0; place < from.size; place++) {
                if (isDroppable(from.kinds[place]) && !liveness.isLive(place + 1, from.xs[place])) {
                    to.put(place, Code.PASS, 0, 0, 0);
                }
            }
        }

        /** An act that makes x and can't stop. */
        private static boolean isDroppable(int kind) {
            return kind >= Code.SET && kind <= Code.MUL || kind == Code.LESS || kind == Code.ALIKE;
        }

        private void testifyDrop(Routine from, Witness witness) {
            for (int place = 0; place <= from.size; place++) {
                int pair = witness.append(place, place, BOTH, 0);
                for (int register = 0; register < REGISTERS; register++) {
                    boolean asked = liveness.isLive(place, register);
                    witness.setClaim(pair, register, asked ? CLAIM_SAME : NO_CLAIM, 0);
                }
            }
        }

        private void thread(Routine from, Routine to) {
            to.copyFrom(from);
            for (int place = 0; place < from.size; place++) {
                if (Code.goesToY(from.kinds[place])) {
                    to.ys[place] = leads.ends[from.target(place)];
                }
            }
        }

        private void testifyThread(Routine from, Witness witness) {
            for (int place = 0; place <= from.size; place++) {
                witness.appendAllSame(place, place, BOTH, 0);
            }
            for (int place = 0; place < from.size; place++) {
                if (leads.ends[place] != place) {
                    witness.appendAllSame(place, leads.ends[place], FIRST_ALONE, leads.steps[place]);
                }
            }
        }

        private void countPasses(Routine from) {
            int passed = 0;
            for (int place = 0; place < from.size; place++) {
                passesAhead[place] = passed;
                if (from.kinds[place] == Code.PASS) {
                    passed++;
                }
            }
            passesAhead[from.size] = passed;
        }

        private int packedPlace(int place) {
            return place - passesAhead[place];
        }

        private void pack(Routine from, Routine to) {
            to.size = 0;
            for (int place = 0; place < from.size; place++) {
                int kind = from.kinds[place];
                if (kind != Code.PASS) {
                    int y = Code.goesToY(kind) ? packedPlace(from.target(place)) : from.ys[place];
                    to.append(kind, from.xs[place], y, from.zs[place]);
                }
            }
        }

        private void testifyPack(Routine from, Witness witness) {
            for (int place = 0; place <= from.size; place++) {
                int row = passesInRow(from, place);
                witness.appendAllSame(place, packedPlace(place), row > 0 ? FIRST_ALONE : BOTH, row);
            }
        }

        private static int passesInRow(Routine from, int start) {
            int place = start;
            while (place < from.size && from.kinds[place] == Code.PASS) {
                place++;
            }
            return place - start;
        }
    }

    /** The FEED, and RUNS of routines: what is told of the latest one. */
    private static final class Runner {
        static final int AT_END = 0;
        static final int STOP_DIVISION = 1;
        static final int STOP_READ = 2;
        static final int OUT_OF_FUEL = 3;
        static final int GOES_ON = 4;

        private final long[] feedNumbers;
        int feedSize;
        final long[] registers;
        /** The first numbers that were given out. */
        final long[] told;
        int given;
        int done;
        int place;

        Runner() {
            feedNumbers = new long[MOST_FEED];
            feedSize = 0;
            registers = new long[REGISTERS];
            told = new long[MOST_TOLD];
            given = 0;
            done = 0;
            place = 0;
        }

        boolean addToFeed(long number) {
            if (feedSize >= MOST_FEED) {
                return false;
            }
            feedNumbers[feedSize] = number;
            feedSize++;
            return true;
        }

        int go(Routine routine, int fuel) {
            for (int register = 0; register < REGISTERS; register++) {
                registers[register] = 0;
            }
            given = 0;
            done = 0;
            place = 0;
            int state = GOES_ON;
            while (done < fuel && place < routine.size && state == GOES_ON) {
                done++;
                state = doAct(routine);
            }
            if (state != GOES_ON) {
                return state;
            }
            return place >= routine.size ? AT_END : OUT_OF_FUEL;
        }

        private int doAct(Routine routine) {
            int kind = routine.kinds[place];
            int x = routine.xs[place];
            int y = routine.ys[place];
            switch (kind) {
                case Code.PASS:
                    break;
                case Code.SET:
                    registers[x] = y;
                    break;
                case Code.MOVE:
                    registers[x] = registers[y];
                    break;
                case Code.READ:
                    return readInto(x, registers[y]);
                case Code.OUT:
                    giveOut(registers[x]);
                    break;
                case Code.JUMP:
                    place = routine.target(place);
                    return GOES_ON;
                case Code.IF:
                    place = registers[x] != 0 ? routine.target(place) : place + 1;
                    return GOES_ON;
                case Code.HALT:
                    place = routine.size;
                    return GOES_ON;
                default:
                    return reckonInto(x, kind, registers[y], registers[routine.zs[place]]);
            }
            place++;
            return GOES_ON;
        }

        private int readInto(int x, long feedPlace) {
            if (feedPlace < 0 || feedPlace >= feedSize) {
                return STOP_READ;
            }
            registers[x] = feedNumbers[(int) feedPlace];
            place++;
            return GOES_ON;
        }

        private int reckonInto(int x, int kind, long y, long z) {
            if (Code.isDivision(kind) && z == 0) {
                return STOP_DIVISION;
            }
            registers[x] = Code.reckon(kind, y, z);
            place++;
            return GOES_ON;
        }

        private void giveOut(long number) {
            if (given < MOST_TOLD) {
                told[given] = number;
            }
            given++;
        }
    }

    /** A row of PAIRS. */
    private static final class Witness {
        final int[] firsts;
        final int[] seconds;
        final int[] modes;
        final int[] measures;
        private final int[] claims;
        private final long[] numbers;
        int size;

        Witness() {
            firsts = new int[MOST_PAIRS];
            seconds = new int[MOST_PAIRS];
            modes = new int[MOST_PAIRS];
            measures = new int[MOST_PAIRS];
            claims = new int[MOST_PAIRS * REGISTERS];
            numbers = new long[MOST_PAIRS * REGISTERS];
            size = 0;
        }

        boolean hasPair(int pair) {
            return pair >= 0 && pair < size;
        }

        int claimOn(int pair, int register) {
            return claims[pair * REGISTERS + register];
        }

        /** The number of a claim 2; 0 of any other. */
        long numberOn(int pair, int register) {
            return numbers[pair * REGISTERS + register];
        }

        void setClaim(int pair, int register, int claim, long number) {
            claims[pair * REGISTERS + register] = claim;
            numbers[pair * REGISTERS + register] = claim == CLAIM_NUMBER ? number : 0;
        }

        /** A PAIR more, without claims; there must be room, which no PASS can use up (101 PAIRS at most). */
        int append(int first, int second, int mode, int measure) {
            int pair = size;
            size++;
            firsts[pair] = first;
            seconds[pair] = second;
            modes[pair] = mode;
            measures[pair] = measure;
            for (int register = 0; register < REGISTERS; register++) {
                setClaim(pair, register, NO_CLAIM, 0);
            }
            return pair;
        }

        void appendAllSame(int first, int second, int mode, int measure) {
            int pair = append(first, second, mode, measure);
            for (int register = 0; register < REGISTERS; register++) {
                setClaim(pair, register, CLAIM_SAME, 0);
            }
        }
    }

    /** One of two routines before the judge: where it is, and WHAT IS in its registers. */
    private static final class Side {
        static final int NUMBER = 0;
        /** What came of the act; as only one act is done, a side has one such thing at most. */
        static final int MADE = 1;
        /** What was in a register ahead of the act: in both routines alike, in the first or the second alone. */
        static final int SHARED = 2;
        static final int OF_FIRST = 3;
        static final int OF_SECOND = 4;

        /** The sort of what only this side has. */
        private final int ownSort;
        private Routine routine;
        int place;
        private final int[] sorts;
        /** The number of a NUMBER, the register of what was in a register. */
        private final long[] values;
        private int madeKind;
        private int leftSort;
        private long leftValue;
        private int rightSort;
        private long rightValue;

        Side(int ownSort) {
            this.ownSort = ownSort;
            routine = new Routine();
            place = 0;
            sorts = new int[REGISTERS];
            values = new long[REGISTERS];
            madeKind = Code.PASS;
            leftSort = NUMBER;
            leftValue = 0;
            rightSort = NUMBER;
            rightValue = 0;
        }

        void take(Routine judged) {
            routine = judged;
        }

        int placeFor(int number) {
            return routine.placeFor(number);
        }

        /** Stands at a PLACE with what a PAIR claims. */
        void stand(int number, Witness witness, int pair) {
            place = placeFor(number);
            for (int register = 0; register < REGISTERS; register++) {
                int claim = witness.claimOn(pair, register);
                if (claim == CLAIM_NUMBER) {
                    sorts[register] = NUMBER;
                    values[register] = witness.numberOn(pair, register);
                } else {
                    sorts[register] = claim == CLAIM_SAME ? SHARED : ownSort;
                    values[register] = register;
                }
            }
        }

        boolean isAtEnd() {
            return place >= routine.size;
        }

        /** The KIND, x, y and z of the act at its PLACE, which is not the END. */
        int kindHere() {
            return routine.kinds[place];
        }

        int xHere() {
            return routine.xs[place];
        }

        int yHere() {
            return routine.ys[place];
        }

        int zHere() {
            return routine.zs[place];
        }

        boolean hasNumber(int register) {
            return sorts[register] == NUMBER;
        }

        boolean isQuiet() {
            if (isAtEnd()) {
                return false;
            }
            int kind = kindHere();
            if (Code.isDivision(kind)) {
                return hasNumber(zHere()) && values[zHere()] != 0;
            }
            if (kind == Code.IF) {
                return hasNumber(xHere());
            }
            return kind != Code.READ && kind != Code.OUT;
        }

        boolean stopsSurely() {
            int kind = kindHere();
            if (Code.isDivision(kind)) {
                return hasAsNumber(zHere(), 0);
            }
            return kind == Code.READ && hasNumber(yHere()) && values[yHere()] < 0;
        }

        void doQuietAct() {
            int kind = kindHere();
            boolean jumps = kind == Code.JUMP || kind == Code.IF && values[xHere()] != 0;
            int next = jumps ? routine.target(place) : place + 1;
            changeX();
            place = kind == Code.HALT ? routine.size : next;
        }

        int targetHere() {
            return routine.target(place);
        }

        /** Changes what is in x as the act at its PLACE does. */
        void changeX() {
            int kind = kindHere();
            int x = xHere();
            int y = yHere();
            int z = zHere();
            boolean stops = Code.isDivision(kind) && hasAsNumber(z, 0);
            if (kind == Code.SET) {
                sorts[x] = NUMBER;
                values[x] = y;
            } else if (kind == Code.MOVE) {
                sorts[x] = sorts[y];
                values[x] = values[y];
            } else if (Code.isReckoning(kind) && hasNumber(y) && hasNumber(z) && !stops) {
                sorts[x] = NUMBER;
                values[x] = Code.reckon(kind, values[y], values[z]);
            } else if (Code.isReckoning(kind) || kind == Code.READ) {
                makeThing(kind, x, y, z);
            }
        }

        private void makeThing(int kind, int x, int y, int z) {
            boolean named = kind != Code.READ;
            madeKind = kind;
            leftSort = sorts[y];
            leftValue = values[y];
            rightSort = named ? sorts[z] : NUMBER;
            rightValue = named ? values[z] : 0;
            sorts[x] = MADE;
        }

        boolean hasAsNumber(int register, long number) {
            return sorts[register] == NUMBER && values[register] == number;
        }

        /** Whether the SAME is in a register of this side and in one of the other. */
        boolean hasSame(int register, Side other, int otherRegister) {
            if (sorts[register] != other.sorts[otherRegister]) {
                return false;
            }
            if (sorts[register] != MADE) {
                return values[register] == other.values[otherRegister];
            }
            return madeKind == other.madeKind
                    && leftSort == other.leftSort && leftValue == other.leftValue
                    && rightSort == other.rightSort && rightValue == other.rightValue;
        }
    }

    /** Looks at two routines and the WITNESS alone. */
    private static final class Judge {
        static final int WELL = 0;
        static final int NO_FIRST_PAIR = 1;
        static final int FALSE_AT_FIRST = 2;
        static final int NOT_TOGETHER = 3;
        static final int NOT_SAME = 4;
        static final int NO_PAIR = 5;
        static final int NOT_LESS = 6;
        static final int NOT_FOLLOWING = 7;
        /** Above every MEASURE, where none need be lesser. */
        static final int ANY_MEASURE = MOST_MEASURE + 1;

        private final Witness witness;
        private final Side first;
        private final Side second;
        /** The first PAIR of each two PLACES, -1 where there is none. */
        private final int[] pairsAt;
        int faultyPair;

        Judge(Witness witness) {
            this.witness = witness;
            first = new Side(Side.OF_FIRST);
            second = new Side(Side.OF_SECOND);
            pairsAt = new int[PLACES * PLACES];
            faultyPair = -1;
        }

        int hear(Routine a, Routine b) {
            first.take(a);
            second.take(b);
            listPairs();
            int start = pairsAt[0];
            if (start < 0) {
                faultyPair = 0;
                return NO_FIRST_PAIR;
            }
            if (!isSoAtFirst(start)) {
                faultyPair = start;
                return FALSE_AT_FIRST;
            }
            for (int pair = 0; pair < witness.size; pair++) {
                int fault = lookAt(pair);
                if (fault != WELL) {
                    faultyPair = pair;
                    return fault;
                }
            }
            faultyPair = -1;
            return WELL;
        }

        private void listPairs() {
            for (int i = 0; i < PLACES * PLACES; i++) {
                pairsAt[i] = -1;
            }
            // From the last to the first, so that the first of one spot stays.
            for (int pair = witness.size - 1; pair >= 0; pair--) {
                pairsAt[spot(first.placeFor(witness.firsts[pair]), second.placeFor(witness.seconds[pair]))] = pair;
            }
        }

        private static int spot(int firstPlace, int secondPlace) {
            return firstPlace * PLACES + secondPlace;
        }

        private boolean isSoAtFirst(int pair) {
            for (int register = 0; register < REGISTERS; register++) {
                if (witness.numberOn(pair, register) != 0) {
                    return false;
                }
            }
            return true;
        }

        private int lookAt(int pair) {
            first.stand(witness.firsts[pair], witness, pair);
            second.stand(witness.seconds[pair], witness, pair);
            int mode = witness.modes[pair];
            if (mode != BOTH) {
                return lookAtOne(mode == FIRST_ALONE ? first : second, witness.measures[pair]);
            }
            if (first.isAtEnd() && second.isAtEnd()) {
                return WELL;
            }
            if (first.isAtEnd() || second.isAtEnd()) {
                return NOT_TOGETHER;
            }
            return first.isQuiet() && second.isQuiet() ? lookAtQuiet() : lookAtLoud();
        }

        private int lookAtOne(Side side, int measure) {
            if (!side.isQuiet()) {
                return NOT_TOGETHER;
            }
            side.doQuietAct();
            return goOn(first.place, second.place, measure);
        }

        private int lookAtQuiet() {
            first.doQuietAct();
            second.doQuietAct();
            return goOn(first.place, second.place, ANY_MEASURE);
        }

        /** Both are at acts, not both QUIET: these must be of one KIND and ask for the SAME. */
        private int lookAtLoud() {
            int kind = first.kindHere();
            if (kind != second.kindHere() || !isLoudKind(kind)) {
                return NOT_TOGETHER;
            }
            if (!asksSame(kind)) {
                return NOT_SAME;
            }
            if (first.stopsSurely() && second.stopsSurely()) {
                return WELL;
            }
            first.changeX();
            second.changeX();
            int fault = goOn(first.place + 1, second.place + 1, ANY_MEASURE);
            if (fault == WELL && kind == Code.IF) {
                fault = goOn(first.targetHere(), second.targetHere(), ANY_MEASURE);
            }
            return fault;
        }

        private static boolean isLoudKind(int kind) {
            return Code.isDivision(kind) || kind == Code.READ || kind == Code.OUT || kind == Code.IF;
        }

        private boolean asksSame(int kind) {
            if (kind == Code.OUT || kind == Code.IF) {
                return first.hasSame(first.xHere(), second, second.xHere());
            }
            boolean sameY = first.hasSame(first.yHere(), second, second.yHere());
            return sameY && (kind == Code.READ || first.hasSame(first.zHere(), second, second.zHere()));
        }

        /** There must be a PAIR of these PLACES, of a MEASURE below this, whose claims follow. */
        private int goOn(int firstPlace, int secondPlace, int below) {
            int next = pairsAt[spot(firstPlace, secondPlace)];
            if (next < 0) {
                return NO_PAIR;
            }
            if (witness.measures[next] >= below) {
                return NOT_LESS;
            }
            for (int register = 0; register < REGISTERS; register++) {
                if (!follows(next, register)) {
                    return NOT_FOLLOWING;
                }
            }
            return WELL;
        }

        private boolean follows(int next, int register) {
            int claim = witness.claimOn(next, register);
            if (claim == CLAIM_SAME) {
                return first.hasSame(register, second, register);
            }
            long number = witness.numberOn(next, register);
            return claim == NO_CLAIM
                    || first.hasAsNumber(register, number) && second.hasAsNumber(register, number);
        }
    }
}
