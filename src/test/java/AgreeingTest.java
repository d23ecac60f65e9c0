/** AGREEING of "Terms", as input (promise 13) and charge (promise 14) show it. */
final class AgreeingTest {
    public static void main(String[] args) {
        Check check = new Check();
        pathsOfOneToThree(check);
        missingIsHeldAsZero(check);
        asManyRoundsAsItBears(check);
        nodesThatBearDifferently(check);
        membersAlone(check);
        moreThanHalf(check);
        noMajority(check);
        itsOwnValue(check);
        valuesOfNoMember(check);
        relayedOfNoMember(check);
        faultyRelays(check);
        lowestBits(check);
        inputsBeforeAFrame(check);
        inputsOfNoNode(check);
        chargesBeforeAFrame(check);
        chargesOfNoNode(check);
        check.end();
    }

    /** With one round node 3 has 200 three times of six; a second round settles what 0 relayed. */
    private static void pathsOfOneToThree(Check check) {
        check.sentence("Terms", "a PATH is a list of one to three different nodes that begins with s.");
        int[][] want = {
            // inputs of node 1 at nodes 0, 2, 3 with m 0, 1 and 2
            {200, 200, 205}, {200, 200, 0}, {200, 200, 200},
        };
        for (int faults = 0; faults <= 2; faults++) {
            VotedFrames x = Doc.sensing(7, faults, 50);
            x.fault(0, Doc.TWO_FACED, 9);
            x.fault(1, Doc.TWO_FACED, 5);
            x.run(1);
            check.due("input(0, 1) with m " + faults, x.input(0, 1), want[faults][0]);
            check.due("input(2, 1) with m " + faults, x.input(2, 1), want[faults][1]);
            check.due("input(6, 1) with m " + faults, x.input(6, 1), want[faults][1]);
            check.due("input(3, 1) with m " + faults, x.input(3, 1), want[faults][2]);
            check.due("input(5, 1) with m " + faults, x.input(5, 1), want[faults][2]);
        }
    }

    /** Node 0 (at 2) does not hear 2 and 3 (at 0, delay 20) with DELTA 1; the others hear all. */
    private static void missingIsHeldAsZero(Check check) {
        check.sentence("Terms", "A missing one is held as 0.");
        for (int faults = 0; faults <= 1; faults++) {
            VotedFrames x = new VotedFrames(4, faults, 1);
            x.clock(0, 2, 0);
            x.link(2, 0, 20, 0);
            x.link(3, 0, 20, 0);
            x.sensor(1, 5);
            x.sensor(2, 6);
            x.run(1);
            check.due("input(0, 2): 0, or 0, 6 and 0", x.input(0, 2), 0);
            check.due("input(0, 1): 5, or 5, 0 and 0", x.input(0, 1), faults == 0 ? 5 : 0);
            check.due("input(1, 2): 6, or 6, 0 and 6", x.input(1, 2), 6);
            check.due("input(3, 1)", x.input(3, 1), 5);
        }
    }

    private static void asManyRoundsAsItBears(Check check) {
        check.sentence("Terms",
            "if the number of nodes of p is 1 + what i bears, what it holds for p.");
        int[][] want = {{307, 314, 300, 328}, {0, 0, 300, 0}};
        for (int faults = 0; faults <= 1; faults++) {
            VotedFrames x = Doc.sensing(4, faults, 50);
            x.fault(2, Doc.SPREADING, 7);
            x.run(1);
            for (int i = 0; i < 4; i++) {
                check.due("input(" + i + ", 2) with m " + faults,
                    x.input(i, 2), want[faults][i]);
            }
        }
    }

    /** Nodes 0 to 2 have three members and bear 0, node 3 has four and bears 1. */
    private static void nodesThatBearDifferently(Check check) {
        check.sentence("Terms", "What node i MAKES of a path p: .. what i bears");
        VotedFrames x = Doc.without(3, 4, 1, 50);
        check.due("bears(0)", x.bears(0), 0);
        check.due("bears(3)", x.bears(3), 1);
        x.fault(1, Doc.TWO_FACED, 7);
        x.run(1);
        check.due("input(0, 1): what it holds", x.input(0, 1), 200);
        check.due("input(2, 1): what it holds", x.input(2, 1), 200);
        check.due("input(3, 1): 207, 200 and 200", x.input(3, 1), 200);
        VotedFrames y = Doc.without(3, 4, 1, 50);
        y.fault(2, Doc.TWO_FACED, 7);
        y.run(1);
        check.due("input(0, 2): what it holds", y.input(0, 2), 300);
        check.due("input(1, 2): what it holds", y.input(1, 2), 307);
        check.due("input(3, 2): 307, 300 and 307", y.input(3, 2), 307);
    }

    /** The list of nodes 1 to 5 for node 0 has five places, as 6 is no member; 3 of 6 were no majority. */
    private static void membersAlone(Check check) {
        check.sentence("Terms",
            "and for each member j of i that is not i and not in p what i makes of p followed by j.");
        VotedFrames x = Doc.without(6, 7, 2, 50);
        x.fault(0, Doc.TWO_FACED, 128);
        x.run(1);
        for (int i = 1; i <= 5; i++) {
            check.due("input(" + i + ", 0): 228 at 1, 3, 5, 100 at 2, 4", x.input(i, 0), 228);
        }
    }

    private static void moreThanHalf(Check check) {
        check.sentence("Terms",
            "The majority of a list is the value that stands there in more than half of the places");
        int[][] cases = {
            // nodes, TWO-FACED node s with 7, what the others agree on for 100 * (s + 1)
            {4, 0, 107}, {4, 1, 200}, {4, 2, 307}, {4, 3, 400},
            {5, 1, 200}, {5, 3, 400}, {6, 0, 107}, {6, 1, 200}, {6, 2, 307}, {6, 5, 600},
            {7, 1, 200}, {7, 3, 400}, {7, 5, 600},
        };
        for (int[] c : cases) {
            others(check, c[0], Doc.TWO_FACED, c[1], c[2]);
        }
    }

    private static void noMajority(Check check) {
        check.sentence("Terms", "0 if there is none.");
        int[][] halves = {{5, 0}, {5, 2}, {5, 4}, {7, 0}, {7, 2}, {7, 4}, {7, 6}};
        for (int[] c : halves) {
            others(check, c[0], Doc.TWO_FACED, c[1], 0);
        }
        for (int n = 4; n <= 7; n++) {
            others(check, n, Doc.SPREADING, n - 1, 0);
        }
    }

    /** With m 1 all others of a faulty source, with the number 7, agree on the same. */
    private static void others(Check check, int nodes, int kind, int source, int want) {
        VotedFrames x = Doc.sensing(nodes, 1, 50);
        x.fault(source, kind, 7);
        x.run(1);
        for (int i = 0; i < nodes; i++) {
            int due = i == source ? 100 * (source + 1) : want;
            check.due("kind " + kind + " of " + nodes + ": input(" + i + ", " + source + ")",
                x.input(i, source), due);
        }
    }

    private static void itsOwnValue(Check check) {
        check.sentence("Terms", "What i AGREES on: for s = i the value itself");
        for (int kind = 0; kind <= 5; kind++) {
            for (int faults = 0; faults <= 2; faults++) {
                VotedFrames x = Doc.sensing(7, faults, 50);
                x.fault(3, kind, 128);
                x.run(2);
                check.due("kind " + kind + ": input(3, 3)", x.input(3, 3), 400);
            }
        }
    }

    private static void valuesOfNoMember(Check check) {
        check.sentence("Terms", "0 if s is not a member of i");
        for (int n = 4; n <= 7; n++) {
            VotedFrames x = Doc.without(0, n, 1, 50);
            x.fault(0, Doc.FIXED, -1);
            x.run(1);
            for (int i = 1; i < n; i++) {
                check.due("input(" + i + ", 0)", x.input(i, 0), 0);
                check.due("charge(" + i + ", 0)", x.charge(i, 0), 0);
                check.due("input(0, " + i + ")", x.input(0, i), 100 * (i + 1));
            }
            check.due("input(0, 0)", x.input(0, 0), 100);
        }
    }

    /** All others go on to relay to node 0 what node 1 says. */
    private static void relayedOfNoMember(Check check) {
        check.sentence("Terms", "0 if s is not a member of i; otherwise what i makes of the path s alone.");
        VotedFrames x = Doc.zeroWithoutOne();
        x.fault(1, Doc.FIXED, 200);
        x.run(1);
        check.due("bears(0) of four members", x.bears(0), 1);
        check.due("input(0, 1): 200 is relayed by 2, 3 and 4", x.input(0, 1), 0);
        check.due("input(3, 1)", x.input(3, 1), 200);
        check.due("charge(0, 1)", x.charge(0, 1), 0);
        check.due("charge(3, 1): the lowest 5 bits of 200", x.charge(3, 1), 8);
    }

    private static void faultyRelays(Check check) {
        check.sentence("Terms", "it is what i gets when j sends i what j holds for p.");
        for (int kind = 1; kind <= 5; kind++) {
            VotedFrames x = Doc.sensing(4, 1, 50);
            x.fault(3, kind, 9);
            x.run(2);
            for (int i = 0; i < 4; i++) {
                for (int s = 0; s < 3; s++) {
                    check.due("kind " + kind + ": input(" + i + ", " + s + ")",
                        x.input(i, s), 100 * (s + 1));
                }
            }
        }
        VotedFrames two = Doc.sensing(4, 1, 50);
        two.fault(2, Doc.FIXED, 16);
        two.fault(3, Doc.FIXED, 16);
        two.run(1);
        check.due("input(0, 1): 200, 16 and 16", two.input(0, 1), 16);
        check.due("input(2, 1): 200, 200 and 16", two.input(2, 1), 200);
    }

    private static void lowestBits(Check check) {
        check.sentence("Terms",
            "of what node i agrees on the lowest n bits are its charges of s.");
        for (int n = 4; n <= 7; n++) {
            for (int number : new int[] {-5000, -1, 0, 5, 127, 128 + 5, 5000}) {
                VotedFrames x = new VotedFrames(n, 1, 10);
                x.fault(0, Doc.FIXED, number);
                check.due("run(1): one accuser", x.run(1), 0);
                check.due("charge(1, 0) of " + n + " with " + number,
                    x.charge(1, 0), number & Doc.all(n));
                check.due("charge of the last", x.charge(n - 1, 0), number & Doc.all(n));
                check.due("charge(0, 0): its own", x.charge(0, 0), 0);
                check.due("charge(1, 2)", x.charge(1, 2), 0);
            }
        }
    }

    private static void inputsBeforeAFrame(Check check) {
        check.sentence("Promise 13",
            "The input of node s that node i agreed on in the latest frame; 0 before the first one");
        VotedFrames x = Doc.sensing(4, 1, 10);
        check.due("input(1, 1) before the first", x.input(1, 1), 0);
        check.due("input(0, 3) before the first", x.input(0, 3), 0);
        x.run(1);
        x.sensor(1, 7);
        check.due("input(1, 1) of the latest", x.input(1, 1), 200);
        check.due("input(0, 1) of the latest", x.input(0, 1), 200);
        x.run(1);
        check.due("input(1, 1)", x.input(1, 1), 7);
        check.due("input(0, 1)", x.input(0, 1), 7);
    }

    private static void inputsOfNoNode(Check check) {
        check.sentence("Promise 13", "and if one of them is no node.");
        for (int n = 4; n <= 7; n++) {
            VotedFrames x = Doc.sensing(n, 1, 10);
            x.run(1);
            for (int wrong : Doc.outside(n)) {
                for (int i = 0; i < n; i++) {
                    check.due("input(" + wrong + ", " + i + ")", x.input(wrong, i), 0);
                    check.due("input(" + i + ", " + wrong + ")", x.input(i, wrong), 0);
                }
                check.due("input of two wrong ones", x.input(wrong, wrong), 0);
            }
        }
    }

    private static void chargesBeforeAFrame(Check check) {
        check.sentence("Promise 14",
            "The charges of node s that node i agreed on in the latest frame; 0 before the first one");
        VotedFrames x = new VotedFrames(4, 1, 10);
        x.fault(0, Doc.FIXED, 16 + 5);
        check.due("charge(2, 0) before the first", x.charge(2, 0), 0);
        x.run(1);
        check.due("charge(2, 0) of 21", x.charge(2, 0), 5);
        x.fault(0, Doc.FIXED, 0);
        check.due("charge(2, 0) of the latest", x.charge(2, 0), 5);
        x.run(1);
        check.due("charge(2, 0)", x.charge(2, 0), 0);
    }

    private static void chargesOfNoNode(Check check) {
        check.sentence("Promise 14", "and if one of them is no node.");
        for (int n = 4; n <= 7; n++) {
            VotedFrames x = new VotedFrames(n, 1, 10);
            for (int i = 0; i < n; i++) {
                x.fault(i, Doc.FIXED, -1);
            }
            x.run(1);
            check.due("charge(1, 0)", x.charge(1, 0), Doc.all(n));
            for (int wrong : Doc.outside(n)) {
                for (int i = 0; i < n; i++) {
                    check.due("charge(" + wrong + ", " + i + ")", x.charge(wrong, i), 0);
                    check.due("charge(" + i + ", " + wrong + ")", x.charge(i, wrong), 0);
                }
                check.due("charge of two wrong ones", x.charge(wrong, wrong), 0);
            }
        }
    }
}
