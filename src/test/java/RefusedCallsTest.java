import java.util.Arrays;

/** Calls with an argument that is not as said, each beside a twin object that is spared it. */
final class RefusedCallsTest {
    private static final int NODES = 5;
    private static final int[] NO_NODES = Doc.outside(NODES);
    private static final int[] NO_TASKS = Doc.outside(4);

    private final Check check;

    private RefusedCallsTest(Check check) {
        this.check = check;
    }

    /** One call on an object; a boolean answer counts 1 or 0. */
    private interface Call {
        int on(VotedFrames x);
    }

    public static void main(String[] args) {
        Check check = new Check();
        RefusedCallsTest test = new RefusedCallsTest(check);
        test.clocks();
        test.links();
        test.sensors();
        test.faults();
        test.codes();
        test.clears();
        test.dues();
        test.runs();
        test.questions();
        check.end();
    }

    private void sentence(String call) {
        check.sentence("Terms, for " + call,
            "A call with an argument that is not as said changes nothing.");
    }

    /**
     * All settings differ from those of a new object, some messages get through just so,
     * and all nodes are members of all.
     */
    private static VotedFrames busy() {
        VotedFrames x = Doc.sensing(NODES, 0, 1);
        Doc.everyFrame(x, 0, Doc.WORD, 0, Doc.IN, 4, Doc.ADD, 0);
        x.code(1, Doc.WORD, 1);
        x.code(1, Doc.NUM, 1);
        x.code(1, Doc.ADD, 0);
        x.due(1, 2, 1);
        for (int k = 0; k < 6; k++) {
            x.code(2, Doc.NUM, 0);
            x.code(2, Doc.SKIP, 0);
        }
        x.due(2, 3, 2);
        x.run(1);
        x.fault(2, Doc.TWO_FACED, 32);
        x.link(1, 0, 0, -2);
        x.link(2, 0, 20, 2);
        for (int i = 0; i < NODES; i++) {
            x.clock(i, i == 0 ? 2 : 0, i - 2);
        }
        return x;
    }

    private void refused(String name, int answer, Call call) {
        VotedFrames spared = busy();
        VotedFrames x = busy();
        check.due(name, call.on(x), answer);
        same(name + ": at once", x, spared);
        check.due(name + ": run(1)", x.run(1), spared.run(1));
        same(name + ": behind a frame", x, spared);
        for (int k = 0; k < 3; k++) {
            check.due(name + ": run(4)", x.run(4), spared.run(4));
            same(name + ": behind more frames", x, spared);
        }
        for (int t = 0; t < 4; t++) {
            check.due(name + ": clear(" + t + ")", x.clear(t), spared.clear(t));
        }
    }

    private void same(String name, VotedFrames x, VotedFrames spared) {
        check.yes(name + ", all answers are the same",
            Arrays.equals(Answers.of(x, NODES), Answers.of(spared, NODES)));
    }

    private void no(String name, Call call) {
        refused(name, 0, call);
    }

    private static int bit(boolean answer) {
        return answer ? 1 : 0;
    }

    private void clocks() {
        sentence("clock");
        for (int i : NO_NODES) {
            no("clock(" + i + ", 7, 2)", x -> bit(x.clock(i, 7, 2)));
        }
        for (int offset : new int[] {-501, 501, Doc.MIN, Doc.MAX}) {
            no("clock(1, " + offset + ", 2)", x -> bit(x.clock(1, offset, 2)));
        }
        for (int drift : new int[] {-3, 3, Doc.MIN, Doc.MAX}) {
            no("clock(1, 7, " + drift + ")", x -> bit(x.clock(1, 7, drift)));
        }
    }

    private void links() {
        sentence("link");
        for (int i : NO_NODES) {
            no("link(" + i + ", 0, 20, 3)", x -> bit(x.link(i, 0, 20, 3)));
            no("link(1, " + i + ", 20, 3)", x -> bit(x.link(1, i, 20, 3)));
        }
        for (int i = 0; i < NODES; i++) {
            int itself = i;
            no("link(" + i + ", " + i + ", 20, 3)", x -> bit(x.link(itself, itself, 20, 3)));
        }
        for (int delay : new int[] {-1, 21, Doc.MIN, Doc.MAX}) {
            no("link(1, 0, " + delay + ", 3)", x -> bit(x.link(1, 0, delay, 3)));
        }
        for (int error : new int[] {-4, 4, Doc.MIN, Doc.MAX}) {
            no("link(1, 0, 20, " + error + ")", x -> bit(x.link(1, 0, 20, error)));
            no("link(2, 0, 0, " + error + ")", x -> bit(x.link(2, 0, 0, error)));
        }
    }

    private void sensors() {
        sentence("sensor");
        for (int i : NO_NODES) {
            no("sensor(" + i + ", 9)", x -> bit(x.sensor(i, 9)));
        }
    }

    private void faults() {
        sentence("fault");
        for (int i : NO_NODES) {
            no("fault(" + i + ", 2, 64)", x -> bit(x.fault(i, Doc.FIXED, 64)));
        }
        for (int kind : Doc.outside(6)) {
            no("fault(2, " + kind + ", 64)", x -> bit(x.fault(2, kind, 64)));
        }
        for (int number : new int[] {-5001, 5001, Doc.MIN, Doc.MAX}) {
            for (int kind = Doc.CORRECT; kind <= Doc.AT_TIMES; kind++) {
                int of = kind;
                no("fault(2, " + kind + ", " + number + ")", x -> bit(x.fault(2, of, number)));
            }
        }
    }

    private void codes() {
        sentence("code");
        for (int t : NO_TASKS) {
            no("code(" + t + ", NUM, 9)", x -> bit(x.code(t, Doc.NUM, 9)));
        }
        for (int op : Doc.outside(10)) {
            no("code(0, " + op + ", 1)", x -> bit(x.code(0, op, 1)));
        }
        for (int number : NO_NODES) {
            no("code(0, IN, " + number + ")", x -> bit(x.code(0, Doc.IN, number)));
        }
        for (int number : Doc.outside(4)) {
            no("code(0, WORD, " + number + ")", x -> bit(x.code(0, Doc.WORD, number)));
        }
        for (int number : Doc.outside(12)) {
            no("code(0, SKIP, " + number + ")", x -> bit(x.code(0, Doc.SKIP, number)));
        }
        no("code(2, NUM, 9) as a thirteenth", x -> bit(x.code(2, Doc.NUM, 9)));
    }

    private void clears() {
        sentence("clear");
        for (int t : NO_TASKS) {
            refused("clear(" + t + ")", -1, x -> x.clear(t));
        }
    }

    private void dues() {
        sentence("due");
        for (int t : NO_TASKS) {
            no("due(" + t + ", 1, 0)", x -> bit(x.due(t, 1, 0)));
        }
        for (int period : new int[] {-1, 0, 9, Doc.MIN, Doc.MAX}) {
            no("due(1, " + period + ", 0)", x -> bit(x.due(1, period, 0)));
            no("due(3, " + period + ", 0)", x -> bit(x.due(3, period, 0)));
        }
        for (int phase : new int[] {-1, 1, Doc.MIN, Doc.MAX}) {
            no("due(1, 1, " + phase + ")", x -> bit(x.due(1, 1, phase)));
            no("due(3, 1, " + phase + ")", x -> bit(x.due(3, 1, phase)));
        }
        no("due(1, 8, 8)", x -> bit(x.due(1, 8, 8)));
    }

    private void runs() {
        sentence("run");
        for (int k : new int[] {-4, -1, 0, 5, Doc.MIN, Doc.MAX}) {
            refused("run(" + k + ")", -1, x -> x.run(k));
        }
    }

    private void questions() {
        sentence("what is asked");
        for (int i : NO_NODES) {
            refused("reading(" + i + ")", 0, x -> x.reading(i));
            refused("correction(" + i + ")", 0, x -> x.correction(i));
            refused("input(" + i + ", 0)", 0, x -> x.input(i, 0));
            refused("input(0, " + i + ")", 0, x -> x.input(0, i));
            refused("charge(" + i + ", 0)", 0, x -> x.charge(i, 0));
            refused("charge(0, " + i + ")", 0, x -> x.charge(0, i));
            refused("word(" + i + ", 0)", 0, x -> x.word(i, 0));
            refused("members(" + i + ")", 0, x -> x.members(i));
            refused("bears(" + i + ")", 0, x -> x.bears(i));
            refused("accused(" + i + ")", 0, x -> x.accused(i));
        }
        for (int t : NO_TASKS) {
            refused("word(0, " + t + ")", 0, x -> x.word(0, t));
            refused("solo(" + t + ")", 0, x -> x.solo(t));
        }
    }
}
