import java.util.Arrays;
import java.util.Random;

/**
 * Promises 1 to 21 together: many runs of calls, right and wrong ones, after each
 * of which everything that can be asked is compared with the plain model's answers.
 * The seeds are fixed, so that every run of the test asks the same.
 */
final class ModelTest {
    private static final int RUNS = 3000;
    private static final int[] ENDS = {
        Integer.MIN_VALUE, Integer.MIN_VALUE + 1, -1, 0, 1, 2, Integer.MAX_VALUE - 1, Integer.MAX_VALUE,
    };

    private final Random random;
    private final VotedFrames real;
    private final Model model;
    private final int delta;
    private final StringBuilder told = new StringBuilder();
    private int strikes;

    private ModelTest(long seed) {
        random = new Random(seed);
        int nodes = random.nextInt(10) == 0 ? pick(ENDS) : 3 + random.nextInt(6);
        int faults = random.nextInt(10) == 0 ? pick(ENDS) : random.nextInt(4);
        int width = random.nextInt(4) == 0 ? pick(ENDS) : random.nextInt(210);
        real = new VotedFrames(nodes, faults, width);
        model = new Model(nodes, faults, width);
        delta = Math.max(1, Math.min(200, width));
        told.append("new VotedFrames(" + nodes + ", " + faults + ", " + width + ")");
    }

    public static void main(String[] args) {
        int wrong = 0;
        int strikes = 0;
        for (int run = 0; run < RUNS && wrong < 3; run++) {
            ModelTest test = new ModelTest(run);
            wrong += test.follows(run % 60 == 0 ? 512 : 20 + run % 60) ? 0 : 1;
            strikes += test.strikes;
        }
        System.out.println(RUNS + " runs, " + wrong + " of them wrong, " + strikes + " strikes");
        if (wrong != 0 || strikes == 0) {
            System.exit(1);
        }
    }

    private boolean follows(int calls) {
        if (!sameAnswers()) {
            return false;
        }
        boolean settled = random.nextBoolean();
        for (int k = 0; k < calls; k++) {
            boolean same = settled && k < 12 ? setUp() : anyCall();
            if (!same || !sameAnswers()) {
                System.out.println(told + ": differs from the model");
                return false;
            }
        }
        return true;
    }

    private boolean sameAnswers() {
        int[] got = Answers.of(real, model.nodes());
        int[] due = model.answers();
        for (int k = 0; k < due.length; k++) {
            if (got[k] != due[k]) {
                told.append(" [answer " + k + " is " + got[k] + ", due is " + due[k] + "]");
            }
        }
        return Arrays.equals(got, due);
    }

    /** A good start for votes that have a majority: short sound programs that are due at once. */
    private boolean setUp() {
        int t = random.nextInt(4);
        switch (random.nextInt(5)) {
            case 0: return code(t, 1, random.nextInt(model.nodes()));
            case 1: return code(t, 0, random.nextInt(9)) && code(t, 3 + random.nextInt(3), 0);
            case 2: return due(t, 1 + random.nextInt(2), 0);
            case 3: return sensor(random.nextInt(model.nodes()), 1 + random.nextInt(3));
            default: return fault(random.nextInt(model.nodes()), random.nextInt(6), number(5));
        }
    }

    private boolean anyCall() {
        switch (random.nextInt(14)) {
            case 0: return clock(node(), offset(), number(2));
            case 1: return link(node(), node(), delay(), number(3));
            case 2: return sensor(node(), random.nextInt(3) == 0 ? pick(ENDS) : random.nextInt(5));
            case 3: return fault(node(), kind(), random.nextInt(3) == 0 ? number(5000) : number(130));
            case 4: return fault(node(), 0, number(5000));
            case 5:
            case 6: return randomCode();
            case 7: return random.nextInt(4) != 0 || clear(task());
            case 8: return due(task(), wild(1 + random.nextInt(8)), wild(random.nextInt(3)));
            case 9: return run(wild(1 + random.nextInt(4)));
            default: return run(1);
        }
    }

    private boolean randomCode() {
        int op = wild(random.nextInt(10));
        int x = random.nextInt(5) == 0 ? pick(ENDS) : random.nextInt(op == 8 ? 13 : 6);
        return code(task(), op, x);
    }

    private int pick(int[] row) {
        return row[random.nextInt(row.length)];
    }

    /** Seldom something else. */
    private int wild(int usual) {
        switch (random.nextInt(40)) {
            case 0: return pick(ENDS);
            case 1: return random.nextInt(14) - 2;
            default: return usual;
        }
    }

    private int node() {
        return wild(random.nextInt(model.nodes()));
    }

    private int task() {
        return wild(random.nextInt(4));
    }

    private int kind() {
        return wild(random.nextInt(6));
    }

    private int number(int bound) {
        return wild(random.nextInt(2 * bound + 1) - bound);
    }

    private int delay() {
        return wild(random.nextBoolean() ? 20 : random.nextInt(21));
    }

    /** Mostly near the limits of what is heard and of what is counted. */
    private int offset() {
        int sign = random.nextBoolean() ? 1 : -1;
        switch (random.nextInt(4)) {
            case 0: return wild(random.nextInt(1001) - 500);
            case 1: return sign * (delta + random.nextInt(7));
            case 2: return sign * (delta + 17 + random.nextInt(7));
            default: return random.nextInt(21) - 10;
        }
    }

    private void tell(String name, int... numbers) {
        told.append("; ").append(name).append(Arrays.toString(numbers));
    }

    private boolean clock(int i, int offset, int drift) {
        tell("clock", i, offset, drift);
        return real.clock(i, offset, drift) == model.clock(i, offset, drift);
    }

    private boolean link(int j, int i, int delay, int error) {
        tell("link", j, i, delay, error);
        return real.link(j, i, delay, error) == model.link(j, i, delay, error);
    }

    private boolean sensor(int i, int v) {
        tell("sensor", i, v);
        return real.sensor(i, v) == model.sensor(i, v);
    }

    private boolean fault(int i, int kind, int x) {
        tell("fault", i, kind, x);
        return real.fault(i, kind, x) == model.fault(i, kind, x);
    }

    private boolean code(int t, int op, int x) {
        tell("code", t, op, x);
        return real.code(t, op, x) == model.code(t, op, x);
    }

    private boolean clear(int t) {
        tell("clear", t);
        return real.clear(t) == model.clear(t);
    }

    private boolean due(int t, int period, int phase) {
        tell("due", t, period, phase);
        return real.due(t, period, phase) == model.due(t, period, phase);
    }

    private boolean run(int k) {
        tell("run", k);
        int got = real.run(k);
        int want = model.run(k);
        strikes += Math.max(0, want);
        told.append(" = " + got + ", due " + want);
        return got == want;
    }
}
