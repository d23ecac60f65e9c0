/** Part 5 of a frame: promises 11, 12 and 19. */
final class ClocksTest {
    private static final int MIN = Integer.MIN_VALUE;
    private static final int MAX = Integer.MAX_VALUE;

    public static void main(String[] args) {
        Check check = new Check();
        meanRoundedDown(check);
        limitOfDifferences(check);
        shownClocks(check);
        struckOutOnesAreNotRead(check);
        spreads(check);
        wrongNodes(check);
        check.end();
    }

    private static void meanRoundedDown(Check check) {
        VotedFrames x = new VotedFrames(4, 1, 10);
        x.clock(0, 9, 2);
        x.clock(1, 0, -1);
        check.due("correction(0) before a frame", x.correction(0), 0);
        x.run(1);
        check.due("correction(0): -27 / 4", x.correction(0), -7);
        check.due("correction(1): 9 / 4", x.correction(1), 2);
        check.due("reading(0): 9 - 7 + 2", x.reading(0), 4);
        check.due("reading(1): 0 + 2 - 1", x.reading(1), 1);
        check.due("reading(2)", x.reading(2), 2);
        x.run(1);
        check.due("correction(0): -3 - 2 - 2", x.correction(0), -2);
        check.due("correction(1): 3 + 1 + 1", x.correction(1), 1);
        check.due("reading(0)", x.reading(0), 4);
        x.clock(0, 100, 0);
        check.due("correction(0) stays until a frame", x.correction(0), -2);
        x.run(1);
        check.due("correction(0): all too far", x.correction(0), 0);
    }

    private static int correctionOfOne(int offset, int error) {
        VotedFrames x = new VotedFrames(4, 1, 10);
        x.clock(0, offset, 0);
        x.link(0, 1, 0, error);
        x.run(1);
        return x.correction(1);
    }

    private static void limitOfDifferences(Check check) {
        check.due("13", correctionOfOne(13, 0), 3);
        check.due("14", correctionOfOne(14, 0), 0);
        check.due("-13", correctionOfOne(-13, 0), -4);
        check.due("-14", correctionOfOne(-14, 0), 0);
        check.due("13 + 1", correctionOfOne(13, 1), 0);
        check.due("16 - 3", correctionOfOne(16, -3), 3);
        check.due("17 - 3", correctionOfOne(17, -3), 0);
        check.due("-13 - 1", correctionOfOne(-13, -1), 0);
        check.due("-16 + 3", correctionOfOne(-16, 3), -4);
        VotedFrames x = new VotedFrames(4, 1, 10);
        x.clock(0, 14, 0);
        x.clock(2, 3, 0);
        x.run(1);
        check.due("correction(1): (0 + 3 + 0) / 4", x.correction(1), 0);
        x.clock(0, 100, 0);
        x.clock(1, 0, 0);
        x.clock(2, 4, 0);
        x.clock(3, 0, 0);
        x.run(1);
        check.due("correction(1): (0 + 4 + 0) / 4", x.correction(1), 1);
    }

    /** Bearing 1, so that a lie of one node strikes nobody out. Node 2 stands at 8. */
    private static void shownClocks(Check check) {
        int[][] want = {
            // corrections of 0, 1 and 3, in frame 0
            {2, 2, 2}, {0, 0, 0}, {1, 1, 1}, {2, 3, 3}, {3, 4, 7}, {2, 2, 2},
        };
        for (int kind = 0; kind <= 5; kind++) {
            VotedFrames x = new VotedFrames(4, 1, 50);
            x.clock(2, 8, 0);
            x.fault(2, kind, 5);
            check.due("kind " + kind + ": run(1)", x.run(1), 0);
            check.due("kind " + kind + ": correction(0)", x.correction(0), want[kind][0]);
            check.due("kind " + kind + ": correction(1)", x.correction(1), want[kind][1]);
            check.due("kind " + kind + ": correction(3)", x.correction(3), want[kind][2]);
            check.due("kind " + kind + ": correction(2)", x.correction(2), -6);
            check.due("kind " + kind + ": reading(2)", x.reading(2), 2);
        }
        VotedFrames atTimes = new VotedFrames(4, 1, 50);
        atTimes.fault(2, 5, 40);
        atTimes.run(1);
        atTimes.clock(2, 8, 0);
        atTimes.run(1);
        check.due("AT TIMES in frame 1: correction(0)", atTimes.correction(0), 2);
    }

    private static void struckOutOnesAreNotRead(Check check) {
        VotedFrames x = new VotedFrames(4, 1, 50);
        x.fault(3, 1, 0);
        x.code(0, 0, 1);
        x.due(0, 1, 0);
        x.clock(0, 6, 0);
        x.clock(3, 40, 0);
        check.due("run(1)", x.run(1), 3);
        check.due("correction(1): 6 / 3, members as they are now", x.correction(1), 2);
        check.due("correction(0): -12 / 3", x.correction(0), -4);
        check.due("correction(3): (-34 - 40 - 40) / 4", x.correction(3), -29);
        x.fault(3, 0, 0);
        x.run(1);
        check.due("correction(1): 3 is not read again", x.correction(1), 0);
        VotedFrames y = new VotedFrames(4, 1, 50);
        y.fault(3, 1, 0);
        y.clock(0, 6, 0);
        y.run(1);
        check.due("correction(1): a SILENT member counts as 0", y.correction(1), 1);
    }

    private static void spreads(Check check) {
        VotedFrames x = new VotedFrames(5, 1, 10);
        x.clock(0, -500, 0);
        x.clock(2, 500, 0);
        x.clock(4, 20, 0);
        check.due("spread()", x.spread(), 1000);
        x.fault(2, 5, 0);
        check.due("spread() without 2", x.spread(), 520);
        x.fault(0, 1, 0);
        check.due("spread() without 0 and 2", x.spread(), 20);
        x.fault(4, 3, 0);
        check.due("spread() of 1 and 3", x.spread(), 0);
        x.clock(3, 7, 0);
        check.due("spread() of 1 and 3", x.spread(), 7);
        x.fault(1, 2, 0);
        check.due("spread() of one", x.spread(), 0);
        x.fault(3, 4, 0);
        check.due("spread() of none", x.spread(), 0);
        x.fault(0, 0, 0);
        x.fault(4, 0, 5);
        check.due("spread() of 0 and 4", x.spread(), 520);
        x.clock(0, 30, 0);
        x.fault(1, 0, 0);
        x.clock(1, -40, 0);
        check.due("spread(): the first two in a row, the lower one behind", x.spread(), 70);
    }

    private static void wrongNodes(Check check) {
        VotedFrames x = new VotedFrames(4, 1, 10);
        for (int i = 0; i < 4; i++) {
            x.clock(i, 3 * i + 1, 1);
        }
        x.run(1);
        for (int wrong : new int[] {-1, 4, 5, MIN, MAX}) {
            check.due("reading(" + wrong + ")", x.reading(wrong), 0);
            check.due("correction(" + wrong + ")", x.correction(wrong), 0);
        }
        check.due("correction(0): (3 + 6 + 9) / 4", x.correction(0), 4);
        check.due("reading(3): 10 + floor(-18 / 4) + 1", x.reading(3), 6);
    }
}
