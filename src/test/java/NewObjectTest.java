/** Promise 1: a new object. */
final class NewObjectTest {
    public static void main(String[] args) {
        Check check = new Check();
        numberOfNodes(check);
        numberOfFaults(check);
        wrappingFaults(check);
        deltaOfReadings(check);
        deltaOfMessages(check);
        allIsZero(check);
        settingsAreZero(check);
        noTasks(check);
        check.end();
    }

    private static void numberOfNodes(Check check) {
        check.sentence("Promise 1", "n is nodes, 4 if that is less, 7 if it is more.");
        int[] asked = {Doc.MIN, -1, 0, 3, 4, 5, 6, 7, 8, 100, Doc.MAX};
        int[] made = {4, 4, 4, 4, 4, 5, 6, 7, 7, 7, 7};
        for (int k = 0; k < asked.length; k++) {
            VotedFrames x = new VotedFrames(asked[k], 0, 10);
            check.due("members(0) with nodes " + asked[k], x.members(0), Doc.all(made[k]));
            check.due("members of the last of " + asked[k], x.members(made[k] - 1), Doc.all(made[k]));
            check.due("members behind the last of " + asked[k], x.members(made[k]), 0);
            check.yes("the last node of " + asked[k], x.sensor(made[k] - 1, 1));
            check.no("the node behind the last of " + asked[k], x.sensor(made[k], 1));
        }
    }

    private static void numberOfFaults(Check check) {
        check.sentence("Promise 1",
            "m is faults if 0 <= 3 * faults < n (..), otherwise the greatest number for which that is so.");
        int[][] cases = {
            // nodes, faults, what every node bears
            {4, 0, 0}, {4, 1, 1}, {4, 2, 1}, {4, -1, 1}, {4, Doc.MIN, 1}, {4, Doc.MAX, 1},
            {5, 0, 0}, {5, 1, 1}, {5, 2, 1}, {5, -1, 1},
            {6, 0, 0}, {6, 1, 1}, {6, 2, 1}, {6, -1, 1},
            {7, 0, 0}, {7, 1, 1}, {7, 2, 2}, {7, 3, 2}, {7, -1, 2}, {7, Doc.MIN, 2}, {7, Doc.MAX, 2},
            // n is 4 and 7 here
            {3, 2, 1}, {8, 3, 2}, {Doc.MAX, 2, 2},
        };
        bearing(check, cases);
    }

    private static void wrappingFaults(Check check) {
        check.sentence("Promise 1", "(as numbers, without wrapping)");
        int[][] cases = {
            // 3 * faults would wrap to 1, 4, 2 and 5
            {4, -1431655765, 1}, {7, -1431655764, 2}, {4, 1431655766, 1}, {7, 1431655767, 2},
            // and here to -2^31, 2^31 - 3 and -2
            {4, Doc.MIN, 1}, {7, Doc.MAX, 2}, {7, -1431655766, 2},
        };
        bearing(check, cases);
    }

    private static void bearing(Check check, int[][] cases) {
        for (int[] c : cases) {
            VotedFrames x = new VotedFrames(c[0], c[1], 10);
            for (int i = 0; i < 4; i++) {
                check.due("bears(" + i + ") with nodes " + c[0] + " and faults " + c[1],
                    x.bears(i), c[2]);
            }
        }
    }

    /** The least clock difference that is no more counted is DELTA + 4. */
    private static void deltaOfReadings(Check check) {
        check.sentence("Promise 1, for readings", "DELTA is delta, 1 if that is less, 200 if it is more.");
        int[] asked = {Doc.MIN, -5, 0, 1, 2, 199, 200, 201, Doc.MAX};
        int[] made = {1, 1, 1, 1, 2, 199, 200, 200, 200};
        for (int k = 0; k < asked.length; k++) {
            VotedFrames near = new VotedFrames(4, 1, asked[k]);
            near.clock(0, made[k] + 3, 0);
            near.run(1);
            check.due("counted with delta " + asked[k],
                near.correction(1), Math.floorDiv(made[k] + 3, 4));
            VotedFrames far = new VotedFrames(4, 1, asked[k]);
            far.clock(0, made[k] + 4, 0);
            far.run(1);
            check.due("not counted with delta " + asked[k], far.correction(1), 0);
        }
    }

    private static void deltaOfMessages(Check check) {
        check.sentence("Promise 1, for messages", "DELTA is delta, 1 if that is less, 200 if it is more.");
        int[] asked = {Doc.MIN, 0, 1, 200, 201, Doc.MAX};
        int[] made = {1, 1, 1, 200, 200, 200};
        for (int k = 0; k < asked.length; k++) {
            VotedFrames x = new VotedFrames(4, 0, asked[k]);
            x.sensor(0, 8);
            x.clock(1, made[k] + 20, 0);
            x.clock(2, made[k] + 21, 0);
            x.run(1);
            check.due("got with delta " + asked[k], x.input(1, 0), 8);
            check.due("missing with delta " + asked[k], x.input(2, 0), 0);
        }
    }

    private static void allIsZero(Check check) {
        check.sentence("Promise 1", "All clocks, .. words, inputs, charges, corrections .. are 0, .. "
            + "all nodes are members of all; .. no frame was run.");
        for (int n = 4; n <= 7; n++) {
            VotedFrames x = new VotedFrames(n, 1, 50);
            check.due("frame()", x.frame(), 0);
            check.due("spread()", x.spread(), 0);
            check.yes("alike()", x.alike());
            for (int i = 0; i < n; i++) {
                check.due("reading", x.reading(i), 0);
                check.due("correction", x.correction(i), 0);
                check.due("members", x.members(i), Doc.all(n));
                check.due("accused", x.accused(i), 0);
                for (int s = 0; s < n; s++) {
                    check.due("input", x.input(i, s), 0);
                    check.due("charge", x.charge(i, s), 0);
                }
                for (int t = 0; t < 4; t++) {
                    check.due("word", x.word(i, t), 0);
                    check.due("solo", x.solo(t), 0);
                }
            }
        }
    }

    private static void settingsAreZero(Check check) {
        check.sentence("Promise 1",
            "All .. drifts, sensors, .. delays and errors are 0, all kinds CORRECT");
        VotedFrames x = new VotedFrames(7, 0, 1);
        check.due("run(4)", x.run(4), 0);
        for (int i = 0; i < 7; i++) {
            check.due("reading(" + i + "): no drift, no error", x.reading(i), 0);
            for (int s = 0; s < 7; s++) {
                check.due("input(" + i + ", " + s + "): no sensor", x.input(i, s), 0);
            }
        }
        for (int i = 0; i < 7; i++) {
            VotedFrames y = new VotedFrames(7, 0, 1);
            y.clock(i, 21, 0);
            y.sensor(i, 5);
            check.due("spread(): " + i + " is CORRECT", y.spread(), 21);
            for (int s = 0; s < 7; s++) {
                y.sensor(s, 5);
            }
            y.run(1);
            for (int s = 0; s < 7; s++) {
                check.due("input(" + i + ", " + s + "): 21 without a delay", y.input(i, s), 5);
            }
        }
    }

    private static void noTasks(Check check) {
        check.sentence("Promise 1", "programs are empty, no task has a period");
        VotedFrames x = new VotedFrames(4, 1, 10);
        for (int t = 0; t < 4; t++) {
            x.code(t, Doc.NUM, 6);
        }
        check.due("run(4)", x.run(4), 0);
        for (int t = 0; t < 4; t++) {
            check.due("word(0, " + t + "): never due", x.word(0, t), 0);
            check.due("solo(" + t + "): never due", x.solo(t), 0);
            check.due("clear(" + t + ")", x.clear(t), 1);
            check.due("clear of a new object", new VotedFrames(4, 1, 10).clear(t), 0);
        }
    }
}
