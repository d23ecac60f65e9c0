/** Promise 1, and what promises 10 to 21 answer before the first frame. */
final class NewObjectTest {
    private static final int MIN = Integer.MIN_VALUE;
    private static final int MAX = Integer.MAX_VALUE;

    public static void main(String[] args) {
        Check check = new Check();
        numberOfNodes(check);
        numberOfFaults(check);
        deltas(check);
        allIsZero(check);
        check.end();
    }

    private static void numberOfNodes(Check check) {
        int[] asked = {MIN, -1, 0, 3, 4, 5, 6, 7, 8, 100, MAX};
        int[] made = {4, 4, 4, 4, 4, 5, 6, 7, 7, 7, 7};
        for (int k = 0; k < asked.length; k++) {
            VotedFrames x = new VotedFrames(asked[k], 0, 10);
            check.due("members(0) with nodes " + asked[k], x.members(0), (1 << made[k]) - 1);
            check.yes("the last node of " + asked[k], x.sensor(made[k] - 1, 1));
            check.no("the node behind the last of " + asked[k], x.sensor(made[k], 1));
        }
    }

    private static void numberOfFaults(Check check) {
        int[][] cases = {
            // nodes, faults, what every node bears
            {4, 0, 0}, {4, 1, 1}, {4, 2, 1}, {4, -1, 1}, {4, MIN, 1}, {4, MAX, 1},
            {5, 0, 0}, {5, 1, 1}, {5, 2, 1}, {6, 1, 1}, {6, 2, 1},
            {7, 0, 0}, {7, 1, 1}, {7, 2, 2}, {7, 3, 2}, {7, -1, 2},
            // 3 * faults wraps to 1, 2, -1 and 2 here
            {7, -1431655765, 2}, {7, 1431655766, 2}, {7, 1431655765, 2}, {4, 1431655766, 1},
        };
        for (int[] c : cases) {
            VotedFrames x = new VotedFrames(c[0], c[1], 10);
            check.due("bears(3) with nodes " + c[0] + " and faults " + c[1], x.bears(3), c[2]);
        }
    }

    /** The least clock difference that is no more counted is DELTA + 4. */
    private static void deltas(Check check) {
        int[] asked = {MIN, -5, 0, 1, 2, 199, 200, 201, MAX};
        int[] made = {1, 1, 1, 1, 2, 199, 200, 200, 200};
        for (int k = 0; k < asked.length; k++) {
            check.due("counted with delta " + asked[k],
                correctionOfOne(asked[k], made[k] + 3), Math.floorDiv(made[k] + 3, 4));
            check.due("not counted with delta " + asked[k], correctionOfOne(asked[k], made[k] + 4), 0);
        }
    }

    private static int correctionOfOne(int delta, int offset) {
        VotedFrames x = new VotedFrames(4, 1, delta);
        x.clock(0, offset, 0);
        x.run(1);
        return x.correction(1);
    }

    private static void allIsZero(Check check) {
        VotedFrames x = new VotedFrames(5, 1, 50);
        check.due("frame()", x.frame(), 0);
        check.due("spread()", x.spread(), 0);
        check.yes("alike()", x.alike());
        for (int i = 0; i < 5; i++) {
            check.due("reading", x.reading(i), 0);
            check.due("correction", x.correction(i), 0);
            check.due("members", x.members(i), 31);
            check.due("bears", x.bears(i), 1);
            check.due("accused", x.accused(i), 0);
            for (int s = 0; s < 5; s++) {
                check.due("input", x.input(i, s), 0);
                check.due("charge", x.charge(i, s), 0);
            }
            for (int t = 0; t < 4; t++) {
                check.due("word", x.word(i, t), 0);
            }
        }
        for (int t = 0; t < 4; t++) {
            check.due("solo", x.solo(t), 0);
        }
        check.due("run(4)", x.run(4), 0);
        check.due("word(0, 0): no task is due", x.word(0, 0), 0);
        check.due("solo(0): no task is due", x.solo(0), 0);
        check.due("reading(4): no drift", x.reading(4), 0);
        for (int t = 0; t < 4; t++) {
            check.due("clear", x.clear(t), 0);
        }
    }
}
