/** NODES of "Terms", as members (promise 16) and bears (17) show it. */
final class NodesTest {
    public static void main(String[] args) {
        Check check = new Check();
        alwaysWithItself(check);
        bearsTheLesser(check);
        bearsOfOneMember(check);
        setsAsInts(check);
        membersOfNoNode(check);
        bearsOfNoNode(check);
        check.end();
    }

    private static void alwaysWithItself(Check check) {
        check.sentence("Terms", "a set of MEMBERS (nodes it takes messages from, always with itself)");
        for (int n = 4; n <= 7; n++) {
            VotedFrames x = everyoneAccusesAll(n);
            check.due("run(1): each strikes out all others", x.run(1), n * (n - 1));
            Doc.everyFrame(x, 0, Doc.NUM, 5);
            check.due("run(4): nobody is left", x.run(4), 0);
            for (int i = 0; i < n; i++) {
                check.due("members(" + i + ")", x.members(i), 1 << i);
                check.due("word(" + i + ", 0): its own vote of one", x.word(i, 0), 5);
                check.due("accused(" + i + ")", x.accused(i), 0);
                check.due("input(" + i + ", " + i + ")", x.input(i, i), 100 * (i + 1));
                check.due("input of another", x.input(i, (i + 1) % n), 0);
            }
        }
    }

    private static VotedFrames everyoneAccusesAll(int nodes) {
        VotedFrames x = Doc.sensing(nodes, 1, 10);
        for (int i = 0; i < nodes; i++) {
            x.fault(i, Doc.FIXED, -1);
        }
        return x;
    }

    /** One node after the other falls silent, from 6 down to 2, and is struck out. */
    private static void bearsTheLesser(Check check) {
        check.sentence("Terms",
            "node i BEARS the lesser of m and (number of its members - 1) / 3, rounded down.");
        int[][] want = {
            // of 7 members, of 6, .. of 2
            {0, 0, 0, 0, 0, 0}, {1, 1, 1, 1, 0, 0}, {2, 1, 1, 1, 0, 0},
        };
        for (int faults = 0; faults <= 2; faults++) {
            VotedFrames x = new VotedFrames(7, faults, 10);
            Doc.everyFrame(x, 0, Doc.NUM, 1);
            for (int struck = 0; struck <= 5; struck++) {
                check.due("members(0)", x.members(0), Doc.all(7 - struck));
                check.due("m " + faults + ", struck out " + struck + ": bears(0)",
                    x.bears(0), want[faults][struck]);
                x.fault(6 - struck, Doc.SILENT, 0);
                x.run(1);
            }
            check.due("members(0): one vote of two strikes out nobody", x.members(0), 3);
        }
    }

    private static void bearsOfOneMember(Check check) {
        check.sentence("Terms", "(number of its members - 1) / 3, rounded down.");
        for (int n = 4; n <= 7; n++) {
            VotedFrames x = everyoneAccusesAll(n);
            check.due("bears(0) before", x.bears(0), 1);
            x.run(1);
            for (int i = 0; i < n; i++) {
                check.due("bears(" + i + ") of one member", x.bears(i), 0);
            }
        }
    }

    private static void setsAsInts(Check check) {
        check.sentence("Terms", "Sets of nodes are shown as ints in which bit k stands for node k.");
        for (int n = 4; n <= 7; n++) {
            for (int k = 0; k < n; k++) {
                VotedFrames x = new VotedFrames(n, 1, 10);
                Doc.everyFrame(x, 0, Doc.NUM, 1);
                x.fault(k, Doc.SILENT, 0);
                check.due("run(1)", x.run(1), n - 1);
                int other = (k + 1) % n;
                check.due("accused(" + other + ") without " + k, x.accused(other), 1 << k);
                check.due("charge(" + other + ", " + other + ")", x.charge(other, other), 1 << k);
                check.due("members(" + other + ") without " + k,
                    x.members(other), Doc.all(n) - (1 << k));
                check.due("members(" + k + ")", x.members(k), Doc.all(n));
            }
        }
    }

    private static void membersOfNoNode(Check check) {
        check.sentence("Promise 16", "The members of node i; 0 if there is no such node.");
        for (int n = 4; n <= 7; n++) {
            VotedFrames x = Doc.without(0, n, 1, 10);
            check.due("members(0)", x.members(0), Doc.all(n));
            check.due("members of the last", x.members(n - 1), Doc.all(n) - 1);
            for (int i : Doc.outside(n)) {
                check.due("members(" + i + ") of " + n, x.members(i), 0);
            }
        }
    }

    private static void bearsOfNoNode(Check check) {
        check.sentence("Promise 17", "How many faults node i bears now; 0 if there is no such node.");
        for (int n = 4; n <= 7; n++) {
            VotedFrames x = new VotedFrames(n, -1, 10);
            check.due("bears of the last", x.bears(n - 1), n == 7 ? 2 : 1);
            for (int i : Doc.outside(n)) {
                check.due("bears(" + i + ") of " + n, x.bears(i), 0);
            }
        }
        VotedFrames x = Doc.without(3, 4, 1, 10);
        check.due("bears(0) now, of three members", x.bears(0), 0);
        check.due("bears(3) now, of four members", x.bears(3), 1);
    }
}
