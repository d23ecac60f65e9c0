/** Promises 9 and 10, the number of a frame, and the 512 calls of an object. */
final class RunTest {
    public static void main(String[] args) {
        Check check = new Check();
        runBounds(check);
        wrongRuns(check);
        strikesOfAllFrames(check);
        framesRun(check);
        firstFrame(check);
        fiveHundredAndTwelveCalls(check);
        check.end();
    }

    /** The others do not hear node 0, and strike it out in the first frame. */
    private static void runBounds(Check check) {
        check.sentence("Promise 9", "Runs k frames (1 .. 4).");
        for (int k = 1; k <= 4; k++) {
            VotedFrames x = new VotedFrames(4, 1, 1);
            x.clock(0, 100, 1);
            Doc.everyFrame(x, 0, Doc.WORD, 0, Doc.NUM, 1, Doc.ADD, 0);
            check.due("run(" + k + ")", x.run(k), 3);
            check.due("frame()", x.frame(), k);
            check.due("reading(0)", x.reading(0), 100 + k);
            check.due("word(1, 0)", x.word(1, 0), k);
        }
    }

    private static void wrongRuns(Check check) {
        check.sentence("Promise 9", "-1, running none, if k is not as said.");
        for (int k : new int[] {0, -1, 5, 8, Doc.MIN, Doc.MAX}) {
            VotedFrames x = new VotedFrames(4, 1, 1);
            x.clock(0, 100, 1);
            x.fault(3, Doc.SILENT, 0);
            Doc.everyFrame(x, 0, Doc.NUM, 1);
            check.due("run(" + k + ")", x.run(k), -1);
            check.due("frame()", x.frame(), 0);
            check.due("reading(0)", x.reading(0), 100);
            check.due("word(1, 0)", x.word(1, 0), 0);
            check.due("solo(0)", x.solo(0), 0);
            check.due("members(1)", x.members(1), 15);
        }
    }

    /** The SILENT node is struck out in frame 2, when the task is due. */
    private static void strikesOfAllFrames(Check check) {
        check.sentence("Promise 9", "How often in them a node struck out a node");
        for (int k = 1; k <= 4; k++) {
            VotedFrames x = new VotedFrames(6, 1, 10);
            x.fault(3, Doc.SILENT, 0);
            x.code(0, Doc.NUM, 1);
            x.due(0, 3, 2);
            check.due("run(" + k + ")", x.run(k), k < 3 ? 0 : 5);
            check.due("run(4) behind it", x.run(4), k < 3 ? 5 : 0);
            check.due("run(4) again", x.run(4), 0);
        }
        VotedFrames y = new VotedFrames(7, 0, 10);
        for (int i = 0; i < 7; i++) {
            y.fault(i, Doc.FIXED, -1);
        }
        check.due("run(4): seven strike out six", y.run(4), 42);
        VotedFrames z = new VotedFrames(7, 2, 10);
        Doc.everyFrame(z, 0, Doc.NUM, 7);
        z.fault(3, Doc.SILENT, 0);
        z.fault(5, Doc.AT_TIMES, 0);
        check.due("run(4): six strike out 3 in frame 0, six 5 in frame 1", z.run(4), 12);
    }

    private static void framesRun(Check check) {
        check.sentence("Promise 10", "How many frames were run.");
        VotedFrames x = new VotedFrames(4, 1, 10);
        check.due("frame() of a new object", x.frame(), 0);
        int frames = 0;
        for (int k = 0; k <= 5; k++) {
            x.run(k);
            frames += k % 5;
            check.due("frame() behind run(" + k + ")", x.frame(), frames);
        }
    }

    private static void firstFrame(Check check) {
        check.sentence("Terms", "A FRAME, number f (the first is 0)");
        VotedFrames x = new VotedFrames(4, 0, 10);
        x.sensor(1, 9);
        x.fault(1, Doc.AT_TIMES, 32);
        x.code(0, Doc.NUM, 5);
        x.due(0, 8, 0);
        x.code(1, Doc.NUM, 6);
        x.due(1, 8, 1);
        x.run(1);
        check.due("input(0, 1): an even number", x.input(0, 1), 9);
        check.due("word(2, 0): due in 0", x.word(2, 0), 5);
        check.due("word(2, 1): not due in 0", x.word(2, 1), 0);
        x.run(1);
        check.due("input(0, 1): an odd number", x.input(0, 1), 32);
    }

    /** DELTA 1 and all clocks far apart: the drift alone moves them, all frames long. */
    private static void fiveHundredAndTwelveCalls(Check check) {
        check.sentence("What it is", "An object is used for at most 512 calls after it has been made");
        VotedFrames x = new VotedFrames(7, 2, 1);
        for (int i = 0; i < 7; i++) {
            check.yes("call " + (i + 1), x.clock(i, 1000 * (i % 2) - 500, 4 * (i % 2) - 2));
        }
        check.yes("call 8", x.due(3, 8, 7));
        for (int k = 0; k < 12; k++) {
            check.yes("call " + (9 + k), x.code(3, Doc.COPY, 0));
        }
        for (int call = 21; call <= 507; call++) {
            check.due("call " + call + ", run(4)", x.run(4), 0);
        }
        check.due("call 508, frame()", x.frame(), 487 * 4);
        check.due("call 509, reading(0)", x.reading(0), -500 - 2 * 487 * 4);
        check.due("call 510, reading(5)", x.reading(5), 500 + 2 * 487 * 4);
        check.due("call 511, spread()", x.spread(), 1000 + 4 * 487 * 4);
        check.due("call 512, solo(3)", x.solo(3), VotedFrames.SHORT);
        for (int call = 513; call < 1000; call++) {
            x.run(4);
        }
    }
}
