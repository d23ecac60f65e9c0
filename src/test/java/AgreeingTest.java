/** Agreeing, as inputs (promise 13) and charges (promise 14) show it. */
final class AgreeingTest {
    private static final int FIXED = 2;
    private static final int TWO_FACED = 3;
    private static final int SPREADING = 4;

    public static void main(String[] args) {
        Check check = new Check();
        majorityOfThree(check);
        noMajority(check);
        halfIsNotEnough(check);
        missingIsHeldAsZero(check);
        faultyRelay(check);
        twoRoundsOfRelaying(check);
        whatNoMemberSends(check);
        lowestBitsAreCharges(check);
        wrongNodes(check);
        check.end();
    }

    private static VotedFrames fresh(int nodes, int faults) {
        VotedFrames x = new VotedFrames(nodes, faults, 50);
        for (int s = 0; s < nodes; s++) {
            x.sensor(s, 100 * (s + 1));
        }
        return x;
    }

    private static void majorityOfThree(Check check) {
        VotedFrames x = fresh(4, 1);
        x.fault(2, TWO_FACED, 7);
        x.run(1);
        check.due("input(0, 2): 300 against 307 twice", x.input(0, 2), 307);
        check.due("input(1, 2)", x.input(1, 2), 307);
        check.due("input(2, 2) is its own sensor", x.input(2, 2), 300);
        check.due("input(3, 2)", x.input(3, 2), 307);
    }

    private static void noMajority(Check check) {
        VotedFrames x = fresh(4, 1);
        x.fault(2, SPREADING, 7);
        x.run(1);
        check.due("input(0, 2): 307, 314 and 328", x.input(0, 2), 0);
        check.due("input(1, 2)", x.input(1, 2), 0);
        check.due("input(2, 2)", x.input(2, 2), 300);
        check.due("input(3, 2)", x.input(3, 2), 0);
    }

    private static void halfIsNotEnough(Check check) {
        VotedFrames x = fresh(5, 1);
        x.fault(0, TWO_FACED, 7);
        x.run(1);
        for (int i = 1; i < 5; i++) {
            check.due("input(" + i + ", 0): two against two", x.input(i, 0), 0);
        }
        VotedFrames y = fresh(5, 1);
        y.fault(1, TWO_FACED, 7);
        y.run(1);
        for (int i = 0; i < 5; i++) {
            check.due("input(" + i + ", 1): three of four", y.input(i, 1), 200);
        }
    }

    /** Node 0 (at 2) does not hear 2 and 3 (at 0, delay 20) with DELTA 1; the others hear all. */
    private static void missingIsHeldAsZero(Check check) {
        VotedFrames x = new VotedFrames(4, 1, 1);
        x.clock(0, 2, 0);
        x.link(2, 0, 20, 0);
        x.link(3, 0, 20, 0);
        x.sensor(1, 5);
        x.sensor(2, 6);
        x.run(1);
        check.due("input(0, 2): 0, 6 and 0", x.input(0, 2), 0);
        check.due("input(0, 1): 5, 0 and 0", x.input(0, 1), 0);
        check.due("input(1, 2): 6, 6 and 6", x.input(1, 2), 6);
        check.due("input(3, 1)", x.input(3, 1), 5);
    }

    private static void faultyRelay(Check check) {
        VotedFrames x = fresh(4, 1);
        x.fault(3, FIXED, -9);
        x.run(1);
        for (int i = 0; i < 3; i++) {
            check.due("input(" + i + ", 3)", x.input(i, 3), -9);
            for (int s = 0; s < 3; s++) {
                check.due("input(" + i + ", " + s + ")", x.input(i, s), 100 * (s + 1));
            }
        }
        check.due("input(3, 3)", x.input(3, 3), 400);
        check.due("input(3, 0)", x.input(3, 0), 100);
    }

    /** With one round node 3 has 200 three times of six; a second round settles what 0 relayed. */
    private static void twoRoundsOfRelaying(Check check) {
        for (int faults = 1; faults <= 2; faults++) {
            VotedFrames x = fresh(7, faults);
            x.fault(1, TWO_FACED, 5);
            x.fault(0, TWO_FACED, 9);
            x.run(1);
            int odd = faults == 1 ? 0 : 200;
            check.due("input(3, 1) with faults " + faults, x.input(3, 1), odd);
            check.due("input(5, 1) with faults " + faults, x.input(5, 1), odd);
            check.due("input(2, 1) with faults " + faults, x.input(2, 1), 200);
            check.due("input(6, 1) with faults " + faults, x.input(6, 1), 200);
        }
        VotedFrames none = fresh(7, 0);
        none.fault(1, TWO_FACED, 5);
        none.run(1);
        check.due("input(3, 1) with faults 0", none.input(3, 1), 205);
        check.due("input(2, 1) with faults 0", none.input(2, 1), 200);
    }

    /** FIXED 2 at node 3, bearing 0: nodes 0 and 2 strike out node 1. */
    private static void whatNoMemberSends(Check check) {
        VotedFrames x = fresh(4, 0);
        x.fault(3, FIXED, 2);
        check.due("run(1)", x.run(1), 2);
        check.due("input(0, 1) as a member", x.input(0, 1), 200);
        check.due("members(0)", x.members(0), 13);
        check.due("run(1)", x.run(1), 0);
        check.due("input(0, 1) as none", x.input(0, 1), 0);
        check.due("input(1, 0): 1 still takes from 0", x.input(1, 0), 100);
        check.due("input(3, 1): 3 has 1 as a member", x.input(3, 1), 200);
        check.due("charge(0, 3)", x.charge(0, 3), 2);
        check.due("charge(0, 1)", x.charge(0, 1), 0);
    }

    private static void lowestBitsAreCharges(Check check) {
        for (int nodes = 4; nodes <= 7; nodes++) {
            VotedFrames x = new VotedFrames(nodes, 1, 10);
            x.fault(0, FIXED, -1);
            check.due("run(1) with " + nodes, x.run(1), 0);
            check.due("charge(1, 0) with " + nodes, x.charge(1, 0), (1 << nodes) - 1);
            check.due("charge(0, 0) with " + nodes, x.charge(0, 0), 0);
            check.due("charge(1, 2) with " + nodes, x.charge(1, 2), 0);
            check.due("members(1) with " + nodes, x.members(1), (1 << nodes) - 1);
        }
        VotedFrames x = new VotedFrames(4, 1, 10);
        x.fault(0, FIXED, 16 + 5);
        x.run(1);
        check.due("charge(2, 0) of 21", x.charge(2, 0), 5);
        x.fault(0, FIXED, 0);
        check.due("charge(2, 0) is of the latest frame", x.charge(2, 0), 5);
        x.run(1);
        check.due("charge(2, 0)", x.charge(2, 0), 0);
    }

    private static void wrongNodes(Check check) {
        VotedFrames x = fresh(5, 1);
        x.fault(0, FIXED, -1);
        x.run(1);
        for (int wrong : new int[] {-1, 5, 7, Integer.MIN_VALUE, Integer.MAX_VALUE}) {
            for (int i = 0; i < 5; i++) {
                check.due("input(" + wrong + ", " + i + ")", x.input(wrong, i), 0);
                check.due("input(" + i + ", " + wrong + ")", x.input(i, wrong), 0);
                check.due("charge(" + wrong + ", " + i + ")", x.charge(wrong, i), 0);
                check.due("charge(" + i + ", " + wrong + ")", x.charge(i, wrong), 0);
            }
            check.due("input of two wrong ones", x.input(wrong, wrong), 0);
        }
    }
}
