/** Part 5 of a frame, and promises 11, 12 and 19. */
final class ClocksTest {
    public static void main(String[] args) {
        Check check = new Check();
        limitOfDifferences(check);
        limitWithErrors(check);
        tooFarOnesCountAsZero(check);
        silentOnesCountAsZero(check);
        membersAsTheyAreNow(check);
        roundedDown(check);
        correctionAndDrift(check);
        fromTheClocksBefore(check);
        readingsOfNoNode(check);
        correctionBeforeAFrame(check);
        correctionOfNoNode(check);
        greatestDifference(check);
        correctNow(check);
        noTwoNodes(check);
        check.end();
    }

    /** What node 1 at the base corrects for node 0, which differs; 2 and 3 stand with node 1. */
    private static int correctionFor(int delta, int base, int difference, int error) {
        VotedFrames x = new VotedFrames(4, 1, delta);
        for (int i = 1; i < 4; i++) {
            x.clock(i, base, 0);
        }
        x.clock(0, base + difference - error, 0);
        x.link(0, 1, 0, error);
        x.run(1);
        return x.correction(1);
    }

    private static void limitOfDifferences(Check check) {
        check.sentence("Terms, part 5",
            "it counts as 0 if it is not between -(DELTA + 3) and DELTA + 3.");
        for (int delta : new int[] {1, 2, 10, 199, 200}) {
            for (int base : new int[] {0, -250, 250}) {
                int edge = delta + 3;
                String name = "delta " + delta + ": ";
                check.due(name + edge, correctionFor(delta, base, edge, 0), Math.floorDiv(edge, 4));
                check.due(name + (edge + 1), correctionFor(delta, base, edge + 1, 0), 0);
                check.due(name + -edge, correctionFor(delta, base, -edge, 0), Math.floorDiv(-edge, 4));
                check.due(name + (-edge - 1), correctionFor(delta, base, -edge - 1, 0), 0);
            }
        }
    }

    private static void limitWithErrors(Check check) {
        check.sentence("Terms, part 5",
            "the difference is the clock that j shows to i, + the error from j to i, - the clock of i");
        for (int error = -3; error <= 3; error++) {
            String name = "error " + error + ": ";
            check.due(name + "13", correctionFor(10, 0, 13, error), 3);
            check.due(name + "14", correctionFor(10, 0, 14, error), 0);
            check.due(name + "-13", correctionFor(10, 0, -13, error), -4);
            check.due(name + "-14", correctionFor(10, 0, -14, error), 0);
        }
        VotedFrames x = new VotedFrames(4, 1, 10);
        x.clock(0, 1, 0);
        x.link(0, 1, 20, 3);
        x.run(1);
        check.due("correction(1): (1 + 3) / 4, without the delay", x.correction(1), 1);
        check.due("correction(0): -3 / 4, the error goes one way", x.correction(0), -1);
    }

    private static void tooFarOnesCountAsZero(Check check) {
        check.sentence("Terms, part 5", "it counts as 0");
        VotedFrames x = new VotedFrames(4, 1, 10);
        x.clock(0, 14, 0);
        x.clock(2, 7, 0);
        x.run(1);
        check.due("correction(1): (0 + 7 + 0) / 4", x.correction(1), 1);
        VotedFrames y = new VotedFrames(4, 1, 10);
        y.clock(0, 500, 0);
        y.clock(2, -500, 0);
        y.clock(3, 8, 0);
        y.run(1);
        check.due("correction(1): (0 + 0 + 8) / 4", y.correction(1), 2);
        check.due("correction(0): all too far", y.correction(0), 0);
    }

    private static void silentOnesCountAsZero(Check check) {
        check.sentence("Terms, part 5", "A SILENT one counts as 0.");
        for (int n = 4; n <= 7; n++) {
            VotedFrames x = new VotedFrames(n, 1, 50);
            x.fault(3, Doc.SILENT, 40);
            x.clock(0, 40, 0);
            x.clock(3, 40, 0);
            x.run(1);
            check.due("correction(1): (40 + 0) / " + n, x.correction(1), 40 / n);
            check.due("correction(3) reads all others",
                x.correction(3), Math.floorDiv(-40 * (n - 2), n));
        }
    }

    /** Nodes 0 to 2 strike out the SILENT node 3 in this frame, and read it no more. */
    private static void membersAsTheyAreNow(Check check) {
        check.sentence("Terms, part 5", "reads every other member j (as they are now)");
        VotedFrames x = new VotedFrames(4, 1, 50);
        x.fault(3, Doc.SILENT, 0);
        Doc.everyFrame(x, 0, Doc.NUM, 1);
        x.clock(0, 6, 0);
        x.clock(3, 40, 0);
        check.due("run(1)", x.run(1), 3);
        check.due("correction(1): 6 / 3", x.correction(1), 2);
        check.due("correction(0): -12 / 3", x.correction(0), -4);
        check.due("correction(3): (-34 - 40 - 40) / 4", x.correction(3), -29);
        VotedFrames y = new VotedFrames(4, 0, 50);
        y.fault(3, Doc.FIXED, 1);
        y.clock(0, 30, 0);
        check.due("run(1): 1 and 2 strike out 0", y.run(1), 2);
        check.due("correction(1): (0 + 1) / 3", y.correction(1), 0);
        check.due("correction(3): (30 + 0 + 0) / 4", y.correction(3), 7);
        y.clock(1, -5, 0);
        y.clock(2, -5, 0);
        y.run(1);
        check.due("correction(1): (0 + 6) / 3, 0 is not read again", y.correction(1), 2);
    }

    private static void roundedDown(Check check) {
        check.sentence("Terms, part 5",
            "The CORRECTION of i is the sum of these, divided by the number of its members and rounded down.");
        for (int n = 4; n <= 7; n++) {
            for (int offset = -9; offset <= 9; offset++) {
                VotedFrames x = new VotedFrames(n, 1, 50);
                x.clock(0, offset, 0);
                x.run(1);
                check.due("correction(1): " + offset + " / " + n,
                    x.correction(1), Math.floorDiv(offset, n));
                check.due("correction(0): " + (n - 1) + " times " + -offset + ", / " + n,
                    x.correction(0), Math.floorDiv(-offset * (n - 1), n));
            }
        }
    }

    private static void correctionAndDrift(Check check) {
        check.sentence("Terms, part 5", "Its clock then grows by the correction and the drift.");
        for (int drift = -2; drift <= 2; drift++) {
            VotedFrames x = new VotedFrames(4, 1, 10);
            x.clock(0, 9, drift);
            x.run(1);
            check.due("correction(0): -27 / 4, without the drift", x.correction(0), -7);
            check.due("reading(0)", x.reading(0), 2 + drift);
            check.due("reading(1)", x.reading(1), 2);
            x.run(1);
            check.due("correction(0)", x.correction(0), Math.floorDiv(-3 * drift, 4));
            check.due("reading(0): the drift comes again",
                x.reading(0), 2 + 2 * drift + Math.floorDiv(-3 * drift, 4));
        }
        VotedFrames alone = new VotedFrames(4, 1, 1);
        alone.clock(0, 500, 2);
        alone.clock(3, -500, -2);
        alone.run(4);
        check.due("reading(0): beyond 500 by drift", alone.reading(0), 508);
        check.due("reading(3)", alone.reading(3), -508);
    }

    private static void fromTheClocksBefore(Check check) {
        check.sentence("Terms", "each is done for all nodes from what they had before that part");
        VotedFrames x = new VotedFrames(4, 1, 50);
        x.clock(0, 40, 0);
        x.clock(3, -40, 0);
        x.run(1);
        int[] want = {-20, 0, 0, 20};
        for (int i = 0; i < 4; i++) {
            check.due("correction(" + i + "): 80 counts as 0", x.correction(i), want[i]);
        }
        VotedFrames y = new VotedFrames(4, 1, 50);
        y.clock(0, 40, 0);
        y.run(1);
        check.due("correction(0): -120 / 4", y.correction(0), -30);
        for (int i = 1; i < 4; i++) {
            check.due("correction(" + i + "): 40 / 4", y.correction(i), 10);
            check.due("reading(" + i + ")", y.reading(i), 10);
        }
    }

    private static void readingsOfNoNode(Check check) {
        check.sentence("Promise 11", "The clock of node i; 0 if there is no such node.");
        for (int n = 4; n <= 7; n++) {
            VotedFrames x = new VotedFrames(n, 1, 10);
            for (int i = 0; i < n; i++) {
                x.clock(i, 3 * i + 1, 0);
            }
            check.due("reading(0)", x.reading(0), 1);
            check.due("reading of the last", x.reading(n - 1), 3 * n - 2);
            for (int wrong : Doc.outside(n)) {
                check.due("reading(" + wrong + ")", x.reading(wrong), 0);
            }
        }
    }

    private static void correctionBeforeAFrame(Check check) {
        check.sentence("Promise 12", "The correction of node i in the latest frame; 0 before the first one");
        VotedFrames x = new VotedFrames(4, 1, 10);
        x.clock(0, 9, 2);
        check.due("correction(0) before the first", x.correction(0), 0);
        x.run(1);
        check.due("correction(0)", x.correction(0), -7);
        x.clock(0, 100, 0);
        check.due("correction(0) of the latest", x.correction(0), -7);
        x.run(1);
        check.due("correction(0): all too far", x.correction(0), 0);
    }

    private static void correctionOfNoNode(Check check) {
        check.sentence("Promise 12", "and if there is no such node.");
        for (int n = 4; n <= 7; n++) {
            VotedFrames x = new VotedFrames(n, 1, 50);
            x.clock(0, 50, 0);
            x.run(1);
            check.due("correction of the last", x.correction(n - 1), 50 / n);
            for (int wrong : Doc.outside(n)) {
                check.due("correction(" + wrong + ")", x.correction(wrong), 0);
            }
        }
    }

    private static void greatestDifference(Check check) {
        check.sentence("Promise 19", "The greatest difference between the clocks of two nodes");
        for (int n = 4; n <= 7; n++) {
            for (int low = 0; low < n; low++) {
                for (int high = 0; high < n; high++) {
                    VotedFrames x = new VotedFrames(n, 1, 10);
                    x.clock(high, 500, 0);
                    x.clock(low, -500, 0);
                    check.due("spread() from " + low + " to " + high, x.spread(), low == high ? 500 : 1000);
                }
            }
        }
        VotedFrames x = new VotedFrames(4, 1, 1);
        x.clock(0, -500, -2);
        x.clock(3, 500, 2);
        x.run(4);
        check.due("spread(): beyond 1000 by drift", x.spread(), 1016);
    }

    private static void correctNow(Check check) {
        check.sentence("Promise 19", "two nodes that are CORRECT now");
        for (int kind = 1; kind <= 5; kind++) {
            VotedFrames x = new VotedFrames(5, 1, 10);
            x.clock(0, -500, 0);
            x.clock(2, 500, 0);
            x.clock(4, 20, 0);
            check.due("spread()", x.spread(), 1000);
            x.fault(2, kind, 0);
            check.due("spread() without 2, kind " + kind, x.spread(), 520);
            x.fault(0, kind, 0);
            check.due("spread() without 0 and 2", x.spread(), 20);
            x.fault(2, Doc.CORRECT, 0);
            check.due("spread() with 2 again", x.spread(), 500);
        }
        VotedFrames y = Doc.without(3, 4, 1, 10);
        y.clock(3, 40, 0);
        check.due("spread(): struck out, but CORRECT", y.spread(), 40);
    }

    private static void noTwoNodes(Check check) {
        check.sentence("Promise 19", "0 if there are no two.");
        for (int left = 0; left < 4; left++) {
            VotedFrames x = new VotedFrames(4, 1, 10);
            for (int i = 0; i < 4; i++) {
                x.clock(i, 100 + 50 * i, 0);
                x.fault(i, i == left ? Doc.CORRECT : Doc.SILENT, 0);
            }
            check.due("spread() of " + left + " alone", x.spread(), 0);
            x.fault(left, Doc.FIXED, 0);
            check.due("spread() of none", x.spread(), 0);
            x.fault(left, Doc.CORRECT, 0);
            int other = (left + 1) % 4;
            x.fault(other, Doc.CORRECT, 0);
            check.due("spread() of two", x.spread(), 50 * Math.abs(left - other));
        }
    }
}
