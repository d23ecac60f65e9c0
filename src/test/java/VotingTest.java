/** Votes, accusing and striking out: promises 9, 15, 16, 17 and 18. */
final class VotingTest {
    private static final int SILENT = 1;
    private static final int FIXED = 2;
    private static final int TWO_FACED = 3;

    public static void main(String[] args) {
        Check check = new Check();
        halfOfTheMembersIsNotEnough(check);
        nobodyAccusesItself(check);
        missingMessagesAreAccused(check);
        halfOfMembersNotOfVotes(check);
        accusedOfSeveralTasks(check);
        bearsAsItWasBefore(check);
        moreAccusersThanBorne(check);
        struckOutForEver(check);
        runBounds(check);
        wrongNodes(check);
        check.end();
    }

    private static void due(Check check, String name, VotedFrames x, int[] members, int[] accused) {
        for (int i = 0; i < members.length; i++) {
            check.due(name + ": members(" + i + ")", x.members(i), members[i]);
            check.due(name + ": accused(" + i + ")", x.accused(i), accused[i]);
        }
    }

    /** Bearing 0, inputs of node 2 are 100, 107, 100, 107, and so are the results. */
    private static void halfOfTheMembersIsNotEnough(Check check) {
        VotedFrames x = new VotedFrames(4, 0, 10);
        x.sensor(2, 100);
        x.fault(2, TWO_FACED, 7);
        x.code(0, 1, 2);
        x.due(0, 1, 0);
        check.due("run(1): 1 strikes out 0, 2 strikes out 0, 3 strikes out 0 and 1", x.run(1), 4);
        check.due("word(0, 0): two of four", x.word(0, 0), 0);
        check.due("word(1, 0): three of four", x.word(1, 0), 107);
        check.due("word(2, 0): two of four", x.word(2, 0), 0);
        check.due("word(3, 0): three of four", x.word(3, 0), 107);
        due(check, "half", x, new int[] {15, 14, 14, 12}, new int[] {0, 1, 0, 1});
        check.due("charge(1, 2): 0 + 7", x.charge(1, 2), 7);
        check.due("charge(0, 2): 0", x.charge(0, 2), 0);
        check.due("charge(0, 1)", x.charge(0, 1), 1);
    }

    /** The FIXED node runs with its own input 100, and is outvoted by 7. */
    private static void nobodyAccusesItself(Check check) {
        VotedFrames x = new VotedFrames(4, 1, 10);
        x.sensor(3, 100);
        x.fault(3, FIXED, 7);
        x.code(0, 1, 3);
        x.due(0, 1, 0);
        check.due("run(1): one accuser is no more than one borne", x.run(1), 0);
        check.due("word(3, 0)", x.word(3, 0), 7);
        check.due("word(0, 0)", x.word(0, 0), 7);
        check.due("charge(0, 3)", x.charge(0, 3), 7);
        due(check, "itself", x, new int[] {15, 15, 15, 15}, new int[] {0, 0, 0, 0});
    }

    private static void missingMessagesAreAccused(Check check) {
        VotedFrames x = new VotedFrames(5, 1, 10);
        x.fault(4, SILENT, 0);
        x.code(1, 0, 0);
        x.due(1, 1, 0);
        check.due("run(1)", x.run(1), 4);
        check.due("word(0, 1): 0 by a majority accuses all the same", x.word(0, 1), 0);
        due(check, "missing", x, new int[] {15, 15, 15, 15, 31}, new int[] {16, 16, 16, 16, 0});
        check.due("run(1): no member, not accused", x.run(1), 0);
        due(check, "missing", x, new int[] {15, 15, 15, 15, 31}, new int[] {0, 0, 0, 0, 0});
        x.clear(1);
        x.fault(3, SILENT, 0);
        check.due("run(1): no task is due, nobody is accused", x.run(1), 0);
        due(check, "missing", x, new int[] {15, 15, 15, 15, 31}, new int[] {0, 0, 0, 0, 0});
    }

    /** Two clocks at 500, two at 0: each node gets one of three messages, all with its own value. */
    private static void halfOfMembersNotOfVotes(Check check) {
        VotedFrames x = new VotedFrames(4, 1, 10);
        x.clock(2, 500, 0);
        x.clock(3, 500, 0);
        x.code(0, 0, 6);
        x.due(0, 1, 0);
        check.due("run(1)", x.run(1), 0);
        for (int i = 0; i < 4; i++) {
            check.due("word(" + i + ", 0): two votes of four members", x.word(i, 0), 0);
        }
        due(check, "members", x, new int[] {15, 15, 15, 15}, new int[] {0, 0, 0, 0});
        check.due("solo(0)", x.solo(0), 6);
        x.clock(2, 0, 0);
        check.due("run(1): 0, 1 and 2 accuse 3", x.run(1), 3);
        check.due("word(0, 0): three votes of four", x.word(0, 0), 6);
        check.due("word(3, 0): one of four", x.word(3, 0), 0);
        due(check, "members", x, new int[] {7, 7, 7, 15}, new int[] {8, 8, 8, 0});
        x.clock(0, -500, 0);
        check.due("run(1): 1 and 2 accuse 0", x.run(1), 2);
        check.due("word(0, 0): one of three, 6 before", x.word(0, 0), 0);
        check.due("word(1, 0): two of three", x.word(1, 0), 6);
    }

    /** Node 3 says 7 for every result: wrong in task 0, right in task 1, and 6 of 7 is told by 2. */
    private static void accusedOfSeveralTasks(Check check) {
        VotedFrames x = new VotedFrames(7, 2, 10);
        x.fault(3, FIXED, 7);
        x.fault(2, TWO_FACED, 1);
        x.code(0, 0, 7);
        x.due(0, 1, 0);
        x.code(1, 0, 8);
        x.due(1, 1, 0);
        x.run(1);
        check.due("accused(0): 3 in task 1", x.accused(0), 8);
        check.due("accused(1): 2 in task 0, 2 and 3 in task 1", x.accused(1), 12);
        check.due("accused(2)", x.accused(2), 8);
        check.due("accused(3)", x.accused(3), 4);
        check.due("accused(6)", x.accused(6), 8);
        VotedFrames y = new VotedFrames(7, 2, 10);
        y.fault(3, FIXED, 7);
        y.code(0, 0, 8);
        y.due(0, 2, 0);
        y.code(1, 0, 7);
        y.due(1, 1, 0);
        check.due("run(1)", y.run(1), 6);
        check.due("accused(0): task 1 takes nothing back", y.accused(0), 8);
        check.due("accused(3)", y.accused(3), 0);
        y.run(1);
        check.due("accused(0) is of the latest frame", y.accused(0), 0);
    }

    /** Node 0 is struck out by 1, 2 and 3; what 3 alone says of 1 and 2 does not count yet. */
    private static void bearsAsItWasBefore(Check check) {
        VotedFrames x = new VotedFrames(4, 1, 10);
        x.fault(0, SILENT, 0);
        x.fault(3, FIXED, 7);
        x.code(0, 0, 7);
        x.due(0, 8, 0);
        check.due("run(1)", x.run(1), 3);
        due(check, "before", x, new int[] {15, 14, 14, 14}, new int[] {0, 1, 1, 1});
        check.due("charge(1, 2): 1, 0 and 7", x.charge(1, 2), 0);
        check.due("charge(1, 3)", x.charge(1, 3), 7);
        check.due("bears(0)", x.bears(0), 1);
        for (int i = 1; i < 4; i++) {
            check.due("bears(" + i + ") of three members", x.bears(i), 0);
        }
        check.due("run(1): now one accuser is enough", x.run(1), 2);
        due(check, "behind", x, new int[] {15, 10, 12, 14}, new int[] {0, 0, 0, 0});
    }

    /** FIXED 4 tells everyone that node 2 is accused. */
    private static void moreAccusersThanBorne(Check check) {
        for (int accusers = 1; accusers <= 3; accusers++) {
            VotedFrames x = new VotedFrames(7, 2, 10);
            VotedFrames y = new VotedFrames(7, 1, 10);
            for (int i = 0; i < accusers; i++) {
                x.fault(i == 2 ? 3 : i, FIXED, 4);
                y.fault(i == 2 ? 3 : i, FIXED, 4);
            }
            if (accusers < 3) {
                check.due("bearing 2, accusers " + accusers, x.run(1), 0);
                check.due("bearing 1, accusers " + accusers, y.run(1), accusers == 1 ? 0 : 4);
                check.due("bearing 1, members(6)", y.members(6), accusers == 1 ? 127 : 123);
                check.due("bearing 1, members(2)", y.members(2), 127);
            } else {
                check.due("bearing 2, accusers 3", x.run(1), 3);
                check.due("bearing 2, members(6)", x.members(6), 123);
            }
        }
    }

    private static void struckOutForEver(Check check) {
        VotedFrames x = new VotedFrames(7, 2, 10);
        x.fault(6, SILENT, 0);
        x.sensor(6, 5);
        x.code(0, 0, 1);
        x.due(0, 1, 0);
        check.due("run(4): six strike out one", x.run(4), 6);
        check.due("members(0)", x.members(0), 63);
        check.due("bears(0) of six members", x.bears(0), 1);
        check.due("bears(6) of seven members", x.bears(6), 2);
        x.fault(6, 0, 0);
        check.due("run(4)", x.run(4), 0);
        check.due("members(0)", x.members(0), 63);
        check.due("members(6)", x.members(6), 127);
        check.due("input(0, 6)", x.input(0, 6), 0);
        check.due("input(6, 6)", x.input(6, 6), 5);
        check.due("word(6, 0)", x.word(6, 0), 1);
    }

    private static void runBounds(Check check) {
        VotedFrames x = new VotedFrames(4, 1, 10);
        for (int k : new int[] {0, -1, 5, Integer.MIN_VALUE, Integer.MAX_VALUE}) {
            check.due("run(" + k + ")", x.run(k), -1);
            check.due("frame()", x.frame(), 0);
        }
        int frames = 0;
        for (int k = 1; k <= 4; k++) {
            check.due("run(" + k + ")", x.run(k), 0);
            frames += k;
            check.due("frame()", x.frame(), frames);
        }
        x.fault(0, SILENT, 0);
        x.code(0, 0, 1);
        x.due(0, 1, 0);
        check.due("run(5)", x.run(5), -1);
        check.due("members(1)", x.members(1), 15);
        check.due("run(4): strikes of all its frames", x.run(4), 3);
    }

    private static void wrongNodes(Check check) {
        VotedFrames x = new VotedFrames(4, 1, 10);
        x.fault(0, SILENT, 0);
        x.code(0, 0, 1);
        x.due(0, 1, 0);
        x.run(1);
        for (int wrong : new int[] {-1, 4, 6, Integer.MIN_VALUE, Integer.MAX_VALUE}) {
            check.due("members(" + wrong + ")", x.members(wrong), 0);
            check.due("bears(" + wrong + ")", x.bears(wrong), 0);
            check.due("accused(" + wrong + ")", x.accused(wrong), 0);
            check.due("word(" + wrong + ", 0)", x.word(wrong, 0), 0);
            check.due("word(1, " + wrong + ")", x.word(1, wrong), 0);
        }
        check.due("word(1, 0)", x.word(1, 0), 1);
        check.due("accused(1)", x.accused(1), 1);
    }
}
