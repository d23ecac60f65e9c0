/** Parts 3 and 4 of a frame: who is struck out, as members (promise 16) and run (9) show it. */
final class StrikingTest {
    public static void main(String[] args) {
        Check check = new Check();
        moreThanItBears(check);
        notItself(check);
        notByItself(check);
        itsOwnAccusing(check);
        bearsAsItWasBefore(check);
        membersAsTheyWereBefore(check);
        forEver(check);
        agreedOnAccused(check);
        check.end();
    }

    private static void due(Check check, String name, VotedFrames x, int... members) {
        for (int i = 0; i < members.length; i++) {
            check.due(name + ": members(" + i + ")", x.members(i), members[i]);
        }
    }

    /** FIXED 4 tells everyone that node 2 is accused; a FIXED one itself hears of the others alone. */
    private static void moreThanItBears(Check check) {
        check.sentence("Terms, part 4", "for which more than what i bears (..) of its members k");
        int[][] cases = {
            // nodes, faults, accusers, strikes in all, members of the last node
            {4, 0, 0, 0, 15}, {4, 0, 1, 2, 11}, {4, 1, 1, 0, 15}, {5, 1, 1, 0, 31}, {5, 1, 2, 2, 27},
            {6, 1, 1, 0, 63}, {6, 1, 2, 3, 59}, {7, 0, 1, 5, 123}, {7, 1, 1, 0, 127}, {7, 1, 2, 4, 123},
            {7, 2, 1, 0, 127}, {7, 2, 2, 0, 127}, {7, 2, 3, 3, 123},
        };
        int[] accusers = {0, 1, 3};
        for (int[] c : cases) {
            VotedFrames x = new VotedFrames(c[0], c[1], 10);
            for (int k = 0; k < c[2]; k++) {
                x.fault(accusers[k], Doc.FIXED, 4);
            }
            String name = c[2] + " accusers of " + c[0] + ", m " + c[1];
            check.due(name + ": run(1)", x.run(1), c[3]);
            check.due(name + ": members of the last", x.members(c[0] - 1), c[4]);
            check.due(name + ": members(2)", x.members(2), Doc.all(c[0]));
        }
    }

    private static void notItself(Check check) {
        check.sentence("Terms, part 4", "STRIKES OUT each member j, not itself");
        for (int n = 4; n <= 7; n++) {
            VotedFrames x = new VotedFrames(n, 0, 10);
            x.fault(3, Doc.FIXED, 1);
            check.due("run(1) of " + n, x.run(1), n - 2);
            check.due("charge(0, 3): it is charged", x.charge(0, 3), 1);
            check.due("members(0)", x.members(0), Doc.all(n));
            check.due("members(1)", x.members(1), Doc.all(n) - 1);
            check.due("members(3)", x.members(3), Doc.all(n));
        }
    }

    private static void notByItself(Check check) {
        check.sentence("Terms, part 4", "of its members k, not j");
        for (int n = 4; n <= 7; n++) {
            VotedFrames x = new VotedFrames(n, 0, 10);
            x.fault(3, Doc.FIXED, 8);
            check.due("run(1) of " + n, x.run(1), 0);
            check.due("charge(0, 3): it charges itself", x.charge(0, 3), 8);
            check.due("members(0)", x.members(0), Doc.all(n));
        }
    }

    /** DELTA 1: nodes 0 and 2 (at 2) do not hear node 1 (delay 20); each has one other accuser. */
    private static void itsOwnAccusing(Check check) {
        check.sentence("Terms, part 4", "of its members k, not j, have j in i's charges of k");
        VotedFrames x = new VotedFrames(4, 1, 1);
        x.clock(0, 2, 0);
        x.clock(2, 2, 0);
        x.link(1, 0, 20, 0);
        x.link(1, 2, 20, 0);
        Doc.everyFrame(x, 0, Doc.NUM, 6);
        check.due("run(1)", x.run(1), 3);
        check.due("charge(0, 0)", x.charge(0, 0), 2);
        check.due("charge(0, 2)", x.charge(0, 2), 2);
        check.due("charge(0, 3)", x.charge(0, 3), 0);
        due(check, "itself among the accusers", x, 13, 15, 13, 13);
        VotedFrames y = new VotedFrames(4, 1, 1);
        y.clock(0, 2, 0);
        y.link(1, 0, 20, 0);
        Doc.everyFrame(y, 0, Doc.NUM, 6);
        check.due("run(1): one accuser, one borne", y.run(1), 0);
        check.due("accused(0)", y.accused(0), 2);
    }

    /** Node 0 is struck out by 1, 2 and 3; what 3 alone says of 1 and 2 does not count yet. */
    private static void bearsAsItWasBefore(Check check) {
        check.sentence("Terms, part 4", "more than what i bears (as it was before)");
        VotedFrames x = new VotedFrames(4, 1, 10);
        x.fault(0, Doc.SILENT, 0);
        x.fault(3, Doc.FIXED, 7);
        x.code(0, Doc.NUM, 7);
        x.due(0, 8, 0);
        check.due("run(1)", x.run(1), 3);
        due(check, "before", x, 15, 14, 14, 14);
        check.due("charge(1, 3)", x.charge(1, 3), 7);
        check.due("bears(0)", x.bears(0), 1);
        for (int i = 1; i < 4; i++) {
            check.due("bears(" + i + ") of three members", x.bears(i), 0);
        }
        check.due("run(1): now one accuser is enough", x.run(1), 2);
        due(check, "behind", x, 15, 10, 12, 14);
    }

    /** Node 0 strikes out 1 (accused by 0 and 2) and 3 (accused by 1 and 2) at once. */
    private static void membersAsTheyWereBefore(Check check) {
        check.sentence("Terms", "each is done for all nodes from what they had before that part");
        VotedFrames x = new VotedFrames(4, 1, 10);
        x.fault(1, Doc.FIXED, 8);
        x.fault(2, Doc.FIXED, 10);
        Doc.everyFrame(x, 0, Doc.NUM, 10);
        check.due("run(1)", x.run(1), 4);
        int[] charges = {2, 8, 10, 0};
        for (int s = 0; s < 4; s++) {
            check.due("charge(0, " + s + ")", x.charge(0, s), charges[s]);
        }
        due(check, "at once", x, 5, 15, 13, 13);
    }

    private static void forEver(Check check) {
        check.sentence("Terms, part 4", "j is a member of i no more, for ever.");
        VotedFrames x = Doc.without(6, 7, 2, 10);
        for (int call = 0; call < 100; call++) {
            check.due("run(4)", x.run(4), 0);
        }
        due(check, "CORRECT since", x, 63, 63, 63, 63, 63, 63, 127);
        check.due("input(0, 6)", x.input(0, 6), 0);
        check.due("input(6, 6)", x.input(6, 6), 700);
        check.yes("fault(6, 0, 0) brings nobody back", x.fault(6, Doc.CORRECT, 0));
        check.yes("clock(6, 0, 0) neither", x.clock(6, 0, 0));
        check.due("run(1)", x.run(1), 0);
        check.due("members(0)", x.members(0), 63);
    }

    /** Node 3 TWO-FACED with 4: nodes 0 and 2 relay to 1 that it accuses nobody. */
    private static void agreedOnAccused(Check check) {
        check.sentence("Terms, part 3", "For every node s all nodes agree on the accused of s as a value");
        VotedFrames x = new VotedFrames(4, 1, 10);
        x.fault(3, Doc.TWO_FACED, 4);
        check.due("run(1)", x.run(1), 0);
        check.due("charge(1, 3): 4, 0 and 0", x.charge(1, 3), 0);
        VotedFrames y = new VotedFrames(4, 0, 10);
        y.fault(3, Doc.TWO_FACED, 4);
        check.due("run(1): bearing 0, 1 takes what it holds", y.run(1), 1);
        check.due("charge(1, 3)", y.charge(1, 3), 4);
        check.due("charge(0, 3)", y.charge(0, 3), 0);
        due(check, "bearing 0", y, 15, 11, 15, 15);
    }
}
