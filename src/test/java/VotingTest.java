/** Parts 1 and 2 of a frame: votes and accusing, promises 15 and 18. */
final class VotingTest {
    public static void main(String[] args) {
        Check check = new Check();
        accusedAreEmptied(check);
        moreThanHalfOfTheMembers(check);
        halfOfTheMembersNow(check);
        missingOnesAreLeftOut(check);
        missingOrAnotherValue(check);
        nobodyAccusesItself(check);
        membersAloneAreAccused(check);
        noMajorityAccusesNobody(check);
        accusedOfSeveralTasks(check);
        beforeThatTask(check);
        tasksFromZeroOn(check);
        wordsOfNoNode(check);
        accusedBeforeAFrame(check);
        accusedOfNoNode(check);
        check.end();
    }

    private static void due(Check check, String name, VotedFrames x, int[] words, int[] accused) {
        for (int i = 0; i < words.length; i++) {
            check.due(name + ": word(" + i + ", 0)", x.word(i, 0), words[i]);
            check.due(name + ": accused(" + i + ")", x.accused(i), accused[i]);
        }
    }

    private static void accusedAreEmptied(Check check) {
        check.sentence("Terms, part 1", "Accused are empty.");
        VotedFrames x = new VotedFrames(5, 1, 10);
        x.fault(4, Doc.SILENT, 0);
        x.code(1, Doc.NUM, 6);
        x.due(1, 2, 0);
        x.run(1);
        check.due("accused(0) in frame 0", x.accused(0), 16);
        x.fault(3, Doc.SILENT, 0);
        x.run(1);
        for (int i = 0; i < 5; i++) {
            check.due("accused(" + i + ") in frame 1: no task is due", x.accused(i), 0);
        }
        x.run(1);
        check.due("accused(0) in frame 2: 4 is no member", x.accused(0), 8);
    }

    /** The last ones are SILENT; so many of n nodes say 9. */
    private static void moreThanHalfOfTheMembers(Check check) {
        check.sentence("Terms, part 2", "if a value stands in it more often than half the number of its "
            + "members, its word of that task becomes that value");
        for (int n = 4; n <= 7; n++) {
            for (int silent = 0; silent < n; silent++) {
                VotedFrames x = new VotedFrames(n, 1, 10);
                for (int i = n - silent; i < n; i++) {
                    x.fault(i, Doc.SILENT, 0);
                }
                Doc.everyFrame(x, 2, Doc.NUM, 9);
                x.run(1);
                boolean most = 2 * (n - silent) > n;
                String name = (n - silent) + " of " + n;
                check.due(name + ": word(0, 2)", x.word(0, 2), most ? 9 : 0);
                check.due(name + ": accused(0)", x.accused(0),
                    most ? Doc.all(n) - Doc.all(n - silent) : 0);
                boolean mostAtLast = 2 * Math.min(n, n - silent + 1) > n;
                check.due(name + ": word of the last", x.word(n - 1, 2), mostAtLast ? 9 : 0);
            }
        }
    }

    /** Of seven nodes three are struck out: then two of four are too few, and three enough. */
    private static void halfOfTheMembersNow(Check check) {
        check.sentence("Terms, part 2", "half the number of its members");
        for (int silent = 1; silent <= 2; silent++) {
            VotedFrames x = new VotedFrames(7, 2, 10);
            Doc.everyFrame(x, 0, Doc.NUM, 9);
            for (int i = 6; i >= 4; i--) {
                x.fault(i, Doc.SILENT, 0);
                x.run(1);
            }
            check.due("members(0)", x.members(0), 15);
            check.due("word(0, 0): four of five", x.word(0, 0), 9);
            for (int i = 4 - silent; i < 4; i++) {
                x.fault(i, Doc.SILENT, 0);
            }
            x.run(1);
            check.due("word(0, 0): " + (4 - silent) + " of four", x.word(0, 0), silent == 1 ? 9 : 0);
            check.due("accused(0)", x.accused(0), silent == 1 ? 8 : 0);
        }
    }

    private static void missingOnesAreLeftOut(Check check) {
        check.sentence("Terms, part 2",
            "its own result and those that it gets from other members (missing ones are left out)");
        VotedFrames x = new VotedFrames(4, 1, 10);
        x.fault(2, Doc.SILENT, 0);
        x.fault(3, Doc.SILENT, 0);
        Doc.everyFrame(x, 0, Doc.NUM, 0);
        check.due("run(1): two zeros of four are no majority", x.run(1), 0);
        due(check, "missing", x, new int[] {0, 0, 0, 0}, new int[] {0, 0, 8, 4});
        VotedFrames y = new VotedFrames(4, 1, 10);
        y.clock(2, 500, 0);
        y.clock(3, 500, 0);
        Doc.everyFrame(y, 0, Doc.NUM, 6);
        check.due("run(1): two votes of two are no majority of four members", y.run(1), 0);
        due(check, "half got", y, new int[] {0, 0, 0, 0}, new int[] {0, 0, 0, 0});
        check.due("solo(0)", y.solo(0), 6);
    }

    private static void missingOrAnotherValue(Check check) {
        check.sentence("Terms, part 2",
            "and every other member whose message is missing or has another value is accused by i");
        VotedFrames x = new VotedFrames(7, 2, 10);
        x.fault(1, Doc.SILENT, 0);
        x.fault(3, Doc.TWO_FACED, 1);
        x.clock(6, 31, 0);
        Doc.everyFrame(x, 0, Doc.NUM, 0);
        x.run(1);
        check.due("accused(0): 1 and 6 are missing", x.accused(0), 2 + 64);
        check.due("accused(5): 3 has another value too", x.accused(5), 2 + 8 + 64);
        check.due("accused(2)", x.accused(2), 2 + 64);
        check.due("accused(6): it hears nobody", x.accused(6), 0);
        check.due("word(0, 0): 0 by a majority", x.word(0, 0), 0);
    }

    /** The FIXED node runs with its own input 100, and is outvoted by 7. */
    private static void nobodyAccusesItself(Check check) {
        check.sentence("Terms, part 2, for itself", "every other member");
        VotedFrames x = new VotedFrames(4, 1, 10);
        x.sensor(3, 100);
        x.fault(3, Doc.FIXED, 7);
        Doc.everyFrame(x, 0, Doc.IN, 3);
        check.due("run(1): one accuser is no more than one borne", x.run(1), 0);
        check.due("charge(0, 3)", x.charge(0, 3), 7);
        due(check, "itself", x, new int[] {7, 7, 7, 7}, new int[] {0, 0, 0, 0});
    }

    private static void membersAloneAreAccused(Check check) {
        check.sentence("Terms, part 2, for no members", "every other member");
        VotedFrames x = new VotedFrames(5, 1, 10);
        x.fault(4, Doc.SILENT, 0);
        Doc.everyFrame(x, 0, Doc.NUM, 3);
        check.due("run(1)", x.run(1), 4);
        due(check, "a member", x, new int[] {3, 3, 3, 3, 3}, new int[] {16, 16, 16, 16, 0});
        check.due("run(1)", x.run(1), 0);
        due(check, "no member", x, new int[] {3, 3, 3, 3, 3}, new int[] {0, 0, 0, 0, 0});
    }

    /** Bearing 0, inputs of node 2 are 100, 107, 100, 107, and so are the results. */
    private static void noMajorityAccusesNobody(Check check) {
        check.sentence("Terms, part 2", "otherwise the word becomes 0 and nobody is accused.");
        VotedFrames x = new VotedFrames(4, 0, 10);
        x.sensor(2, 100);
        Doc.everyFrame(x, 0, Doc.IN, 2);
        x.run(1);
        due(check, "all agree", x, new int[] {100, 100, 100, 100}, new int[] {0, 0, 0, 0});
        x.fault(2, Doc.TWO_FACED, 7);
        x.run(1);
        due(check, "two of four, three of four", x, new int[] {0, 107, 0, 107}, new int[] {0, 1, 0, 1});
        VotedFrames y = new VotedFrames(4, 0, 10);
        Doc.everyFrame(y, 0, Doc.NUM, 6);
        y.run(1);
        y.fault(2, Doc.SILENT, 0);
        y.fault(3, Doc.SILENT, 0);
        y.run(1);
        due(check, "two of four, 6 before", y, new int[] {0, 0, 6, 6}, new int[] {0, 0, 8, 4});
        check.due("solo(0)", y.solo(0), 6);
    }

    /** Node 3 says 7 for every result: wrong in one task, right in the other. */
    private static void accusedOfSeveralTasks(Check check) {
        check.sentence("Terms, part 2", "For every task that is due, .. is accused by i");
        VotedFrames x = new VotedFrames(7, 2, 10);
        x.fault(3, Doc.FIXED, 7);
        x.fault(2, Doc.TWO_FACED, 1);
        Doc.everyFrame(x, 0, Doc.NUM, 7);
        Doc.everyFrame(x, 1, Doc.NUM, 8);
        x.run(1);
        int[] want = {8, 12, 8, 4, 8, 12, 8};
        for (int i = 0; i < 7; i++) {
            check.due("accused(" + i + "): of both tasks", x.accused(i), want[i]);
        }
        VotedFrames y = new VotedFrames(7, 2, 10);
        y.fault(3, Doc.FIXED, 7);
        Doc.everyFrame(y, 0, Doc.NUM, 8);
        Doc.everyFrame(y, 1, Doc.NUM, 7);
        y.run(1);
        check.due("accused(0): task 1 takes nothing back", y.accused(0), 8);
    }

    /** Every program counts its own word up and looks at the others. */
    private static void beforeThatTask(Check check) {
        check.sentence("Terms", "from what they had before that part (in part 2: before that task).");
        VotedFrames x = new VotedFrames(5, 1, 10);
        Doc.everyFrame(x, 0, Doc.WORD, 0, Doc.NUM, 1, Doc.ADD, 0);
        Doc.everyFrame(x, 1, Doc.WORD, 0, Doc.WORD, 2, Doc.ADD, 0);
        Doc.everyFrame(x, 2, Doc.WORD, 1, Doc.NUM, 10, Doc.ADD, 0);
        int[][] want = {{1, 1, 11}, {2, 13, 23}, {3, 26, 36}};
        for (int f = 0; f < 3; f++) {
            x.run(1);
            for (int i = 0; i < 5; i++) {
                for (int t = 0; t < 3; t++) {
                    check.due("word(" + i + ", " + t + ") in frame " + f, x.word(i, t), want[f][t]);
                }
            }
        }
    }

    private static void tasksFromZeroOn(Check check) {
        check.sentence("Terms, part 2", "For every task that is due, from 0 on");
        VotedFrames x = new VotedFrames(4, 1, 10);
        Doc.everyFrame(x, 3, Doc.WORD, 0, Doc.NUM, 2, Doc.MUL, 0);
        Doc.everyFrame(x, 0, Doc.WORD, 3, Doc.NUM, 5, Doc.ADD, 0);
        x.run(1);
        check.due("word(1, 0): before 3", x.word(1, 0), 5);
        check.due("word(1, 3): behind 0", x.word(1, 3), 10);
        check.due("solo(3)", x.solo(3), 10);
    }

    private static void wordsOfNoNode(Check check) {
        check.sentence("Promise 15", "Word t of node i; 0 if there is no such node or word.");
        for (int n = 4; n <= 7; n++) {
            VotedFrames x = new VotedFrames(n, 1, 10);
            for (int t = 0; t < 4; t++) {
                Doc.everyFrame(x, t, Doc.NUM, t + 1);
            }
            x.run(1);
            for (int t = 0; t < 4; t++) {
                check.due("word of the last, " + t, x.word(n - 1, t), t + 1);
                for (int wrong : Doc.outside(n)) {
                    check.due("word(" + wrong + ", " + t + ")", x.word(wrong, t), 0);
                }
            }
            for (int wrong : Doc.outside(4)) {
                check.due("word(0, " + wrong + ")", x.word(0, wrong), 0);
                check.due("word of the last, " + wrong, x.word(n - 1, wrong), 0);
            }
        }
    }

    private static void accusedBeforeAFrame(Check check) {
        check.sentence("Promise 18", "Whom node i accused in the latest frame; 0 before the first one");
        VotedFrames x = new VotedFrames(4, 1, 10);
        x.fault(3, Doc.SILENT, 0);
        x.code(0, Doc.NUM, 1);
        x.due(0, 8, 0);
        check.due("accused(0) before the first", x.accused(0), 0);
        x.run(1);
        check.due("accused(0) of the latest", x.accused(0), 8);
        x.fault(3, Doc.CORRECT, 0);
        check.due("accused(0) of the latest", x.accused(0), 8);
        x.run(1);
        check.due("accused(0)", x.accused(0), 0);
    }

    private static void accusedOfNoNode(Check check) {
        check.sentence("Promise 18", "and if there is no such node.");
        for (int n = 4; n <= 7; n++) {
            VotedFrames x = new VotedFrames(n, 1, 10);
            x.fault(0, Doc.SILENT, 0);
            Doc.everyFrame(x, 0, Doc.NUM, 1);
            x.run(1);
            check.due("accused of the last", x.accused(n - 1), 1);
            for (int wrong : Doc.outside(n)) {
                check.due("accused(" + wrong + ")", x.accused(wrong), 0);
            }
        }
    }
}
