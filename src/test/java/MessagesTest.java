/** The messages of "Terms": when they get through, and what each kind says. Promises 3, 5, 13 and 14. */
final class MessagesTest {
    private static final int MIN = Integer.MIN_VALUE;
    private static final int MAX = Integer.MAX_VALUE;

    public static void main(String[] args) {
        Check check = new Check();
        window(check);
        kindsInEvenFrames(check);
        kindsInOddFrames(check);
        wrapping(check);
        faultyNodesListen(check);
        check.end();
    }

    /** Input of node 1 at node 0 (bearing 0), with DELTA 10 and the clock of 0 at offset. */
    private static int inputAtZero(int offset, int delay) {
        VotedFrames x = new VotedFrames(4, 0, 10);
        x.sensor(1, 77);
        x.clock(0, offset, 0);
        x.link(1, 0, delay, 0);
        x.run(1);
        return x.input(0, 1);
    }

    private static void window(Check check) {
        check.due("30 gets through", inputAtZero(30, 0), 77);
        check.due("31 does not", inputAtZero(31, 0), 0);
        check.due("-30 gets through", inputAtZero(-30, 0), 77);
        check.due("-31 does not", inputAtZero(-31, 0), 0);
        check.due("10 + 20 gets through", inputAtZero(10, 20), 77);
        check.due("11 + 20 does not", inputAtZero(11, 20), 0);
        check.due("-50 + 20 gets through", inputAtZero(-50, 20), 77);
        check.due("-51 + 20 does not", inputAtZero(-51, 20), 0);
        VotedFrames x = new VotedFrames(4, 0, 10);
        x.sensor(0, 5);
        x.sensor(1, 6);
        x.clock(0, 30, 0);
        x.link(0, 1, 20, 0);
        x.link(1, 0, 1, 0);
        x.run(1);
        check.due("input(1, 0): 0 - 30 + 20", x.input(1, 0), 5);
        check.due("input(0, 1): 30 - 0 + 1", x.input(0, 1), 0);
        check.due("input(0, 0) needs no message", x.input(0, 0), 5);
    }

    private static VotedFrames withFault(int kind, int number) {
        VotedFrames x = new VotedFrames(5, 0, 10);
        for (int s = 0; s < 5; s++) {
            x.sensor(s, 100 + s);
        }
        x.fault(2, kind, number);
        return x;
    }

    private static void inputsOfTwo(Check check, String name, VotedFrames x, int... want) {
        for (int i = 0; i < 5; i++) {
            check.due(name + ": input(" + i + ", 2)", x.input(i, 2), want[i]);
        }
    }

    private static void kindsInEvenFrames(Check check) {
        int[][] want = {
            {102, 102, 102, 102, 102}, {0, 0, 102, 0, 0}, {16, 16, 102, 16, 16},
            {102, 118, 102, 118, 102}, {118, 134, 102, 166, 182}, {102, 102, 102, 102, 102},
        };
        for (int kind = 0; kind <= 5; kind++) {
            VotedFrames x = withFault(kind, 16);
            x.run(1);
            inputsOfTwo(check, "kind " + kind, x, want[kind]);
            check.due("kind " + kind + ": input(0, 4)", x.input(0, 4), 104);
            check.due("kind " + kind + ": input(2, 4)", x.input(2, 4), 104);
        }
    }

    /** The number 32 keeps all charges of the five nodes empty, so that all stay members. */
    private static void kindsInOddFrames(Check check) {
        int[][] want = {
            {102, 102, 102, 102, 102}, {0, 0, 102, 0, 0}, {32, 32, 102, 32, 32},
            {102, 134, 102, 134, 102}, {134, 166, 102, 230, 262}, {32, 32, 102, 32, 32},
        };
        for (int kind = 0; kind <= 5; kind++) {
            VotedFrames x = withFault(kind, 32);
            check.due("kind " + kind + ": run(2)", x.run(2), 0);
            inputsOfTwo(check, "kind " + kind + " in frame 1", x, want[kind]);
        }
        VotedFrames atTimes = withFault(5, 32);
        atTimes.run(3);
        inputsOfTwo(check, "AT TIMES in frame 2", atTimes, want[0]);
        atTimes.run(1);
        inputsOfTwo(check, "AT TIMES in frame 3", atTimes, want[5]);
    }

    private static void wrapping(Check check) {
        VotedFrames x = withFault(3, 1);
        x.sensor(2, MAX);
        x.run(1);
        inputsOfTwo(check, "TWO-FACED wraps", x, MAX, MIN, MAX, MIN, MAX);
        VotedFrames y = withFault(4, -1);
        y.sensor(2, MIN);
        y.run(1);
        inputsOfTwo(check, "SPREADING wraps", y, MAX, MAX - 1, MIN, MAX - 3, MAX - 4);
    }

    /** SILENT and FIXED nodes still listen, agree, vote and correct their clocks. */
    private static void faultyNodesListen(Check check) {
        for (int kind = 1; kind <= 2; kind++) {
            VotedFrames x = withFault(kind, 0);
            x.clock(0, 9, 0);
            x.code(0, 1, 4);
            x.due(0, 1, 0);
            x.run(1);
            check.due("kind " + kind + ": input(2, 0)", x.input(2, 0), 100);
            check.due("kind " + kind + ": word(2, 0)", x.word(2, 0), 104);
            check.due("kind " + kind + ": correction(2)", x.correction(2), 1);
            check.due("kind " + kind + ": reading(2)", x.reading(2), 1);
        }
    }
}
