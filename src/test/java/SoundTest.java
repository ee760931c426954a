import java.util.ArrayList;
import java.util.List;
import java.util.Random;

/** What the judge takes gives out the same and ends or stops alike: of passes, and of routines and witnesses spoilt at random. */
public final class SoundTest {
    private static final Checks c = new Checks("SoundTest");
    private static final int OBJECTS = 9000;
    private static final int FUEL = 3000;
    /** So few PASSES, and numbers that are asked for, as an object is used for at most 512 calls. */
    private static final int MOST_PASSES = 2;
    private static final int MOST_OUTS = 30;
    private static int taken = 0;
    private static int takenSpoilt = 0;

    private final Random random;
    private final PassCourt x = new PassCourt();

    private SoundTest(long seed) {
        random = new Random(seed);
    }

    public static void main(String[] args) {
        for (int i = 0; i < OBJECTS; i++) {
            new SoundTest(i).tryAll();
        }
        System.out.println("SoundTest: " + taken + " and " + takenSpoilt + " spoilt ones were taken");
        c.due("enough were taken", taken > OBJECTS ? 1 : 0, 1);
        c.due("enough spoilt ones were taken", takenSpoilt > OBJECTS / 20 ? 1 : 0, 1);
        c.finish();
    }

    private int n(int bound) {
        return random.nextInt(bound);
    }

    private void tryAll() {
        for (int i = 0; i < 3; i++) {
            x.feed(n(4) - 1);
        }
        int plain = someRoutine(3 + n(10));
        int made = plain;
        for (int i = 0; i < MOST_PASSES; i++) {
            int from = made;
            made = x.pass(from, n(4));
            c.due("a PASS is taken", x.judge(from, made), 0);
            alike(from, made);
            taken++;
            int spoilt = spoil(made);
            spoilWitness();
            if (x.judge(from, spoilt) == 0) {
                alike(from, spoilt);
                takenSpoilt += x.same(made, spoilt) == 0 ? 1 : 0;
            }
        }
        alike(plain, x.best(plain));
    }

    private void addAct(int routine, int length) {
        int kind = n(15);
        int place = n(length + 1);
        int ax = kind == 0 || kind == 12 || kind == 14 ? 0 : n(4);
        int ay = kind == 1 ? n(4) - 1 : kind == 12 || kind == 13 ? place : kind >= 2 && kind <= 10 ? n(4) : 0;
        int az = kind >= 3 && kind <= 9 ? n(4) : 0;
        x.act(routine, kind, ax, ay, az);
    }

    private int someRoutine(int length) {
        int routine = x.routine();
        for (int i = 0; i < length; i++) {
            addAct(routine, length);
        }
        return routine;
    }

    /** A routine with one act, at most, another one. */
    private int spoil(int routine) {
        int length = x.length(routine);
        int copy = x.routine();
        int at = n(length + 1);
        for (int place = 0; place < length; place++) {
            if (place == at) {
                addAct(copy, length);
            } else {
                x.act(copy, x.at(routine, place, 0), x.at(routine, place, 1), x.at(routine, place, 2), x.at(routine, place, 3));
            }
        }
        return copy;
    }

    private void spoilWitness() {
        int times = n(2) * n(4);
        for (int i = 0; i < times; i++) {
            int claim = n(6) == 0 ? 2 : n(2);
            x.claim(n(Math.max(1, x.count(1))), n(4), claim, n(3) - 1);
        }
        if (n(4) == 0) {
            x.pair(n(6), n(6), n(3), n(4));
        }
    }

    /** The first numbers that the latest RUN gave out. */
    private List<Long> outsOfLatest(int given) {
        List<Long> outs = new ArrayList<>();
        for (int i = 0; i < Math.min(MOST_OUTS, given); i++) {
            outs.add(x.out(i));
        }
        return outs;
    }

    private void alike(int a, int b) {
        int endA = x.run(a, FUEL);
        int givenA = x.outs();
        List<Long> outsA = outsOfLatest(givenA);
        int endB = x.run(b, FUEL);
        int givenB = x.outs();
        List<Long> outsB = outsOfLatest(givenB);
        if (endA != 3 && endB != 3) {
            c.due("they end alike", endB, endA);
            c.due("they give out as many", givenB, givenA);
        }
        // One that goes on may be behind or ahead of the other, but not beyond one that has ended.
        c.due("not more than what ended", endA == 3 && endB != 3 && givenA > givenB ? 1 : 0, 0);
        c.due("not more than what ended", endB == 3 && endA != 3 && givenB > givenA ? 1 : 0, 0);
        for (int i = 0; i < Math.min(outsA.size(), outsB.size()); i++) {
            c.due("out " + i, outsB.get(i), outsA.get(i));
        }
    }
}
