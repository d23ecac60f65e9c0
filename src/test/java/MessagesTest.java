/** MESSAGES of "Terms": when they get through, and what each kind says and shows. */
final class MessagesTest {
    /** Too great for the charges of any node: as a set of 7 nodes it is empty. */
    private static final int NO_SET = 128;

    public static void main(String[] args) {
        Check check = new Check();
        window(check);
        windowOfResults(check);
        windowOfRelays(check);
        oneWayMembers(check);
        membersOfRelays(check);
        membersOfVoters(check);
        silentOnes(check);
        wrappingInputs(check);
        wrappingResults(check);
        correctOnes(check);
        silentClocks(check);
        fixedOnes(check);
        twoFacedOnes(check);
        spreadingOnes(check);
        atTimes(check);
        atTimesShows(check);
        faultyOnesDoAllElse(check);
        check.end();
    }

    private static void window(Check check) {
        check.sentence("Terms",
            "-(DELTA + 20) <= clock of i - clock of j + delay from j to i <= DELTA + 20");
        for (int delta : new int[] {1, 10, 200}) {
            for (int delay : new int[] {0, 7, 20}) {
                for (int base : new int[] {0, -250, 250}) {
                    int edge = delta + 20;
                    String name = "delta " + delta + ", delay " + delay + ", clock of j " + base + ": ";
                    check.due(name + edge, got(delta, delay, base, edge), 77);
                    check.due(name + (edge + 1), got(delta, delay, base, edge + 1), 0);
                    check.due(name + -edge, got(delta, delay, base, -edge), 77);
                    check.due(name + (-edge - 1), got(delta, delay, base, -edge - 1), 0);
                }
            }
        }
    }

    /** What node 0 gets of the sensor of node 1, with clocks and delay that give the sum. */
    private static int got(int delta, int delay, int clockOfSender, int sum) {
        VotedFrames x = new VotedFrames(4, 0, delta);
        x.sensor(1, 77);
        x.clock(1, clockOfSender, 0);
        x.clock(0, clockOfSender + sum - delay, 0);
        x.link(1, 0, delay, 0);
        x.run(1);
        return x.input(0, 1);
    }

    /** Nodes 1 to 3 stand at 0 and hear one another; node 0 hears all of them or none. */
    private static void windowOfResults(Check check) {
        check.sentence("Terms, for results", "-(DELTA + 20) <= .. <= DELTA + 20");
        for (int sum : new int[] {-31, -30, 30, 31}) {
            VotedFrames x = new VotedFrames(4, 1, 10);
            Doc.everyFrame(x, 0, Doc.NUM, 6);
            x.clock(0, sum, 0);
            x.run(1);
            boolean heard = Math.abs(sum) == 30;
            check.due("word(0, 0) at " + sum, x.word(0, 0), heard ? 6 : 0);
            check.due("accused(1) at " + sum, x.accused(1), heard ? 0 : 1);
        }
    }

    /** Node 0 does not hear node 1, and has what 2 and 3 relay: within the window, or not. */
    private static void windowOfRelays(Check check) {
        check.sentence("Terms, for what is relayed", "-(DELTA + 20) <= .. <= DELTA + 20");
        for (int delay = 18; delay <= 20; delay++) {
            VotedFrames x = Doc.sensing(4, 1, 1);
            x.clock(0, 2, 0);
            x.link(1, 0, 20, 0);
            x.link(2, 0, delay, 0);
            x.link(3, 0, delay, 0);
            x.run(1);
            check.due("input(0, 1) with a delay of " + delay, x.input(0, 1), delay == 20 ? 0 : 200);
        }
    }

    /** FIXED 2 at node 3, bearing 0: nodes 0 and 2 strike out node 1, which keeps all members. */
    private static void oneWayMembers(Check check) {
        check.sentence("Terms", "GETS THROUGH if j is a member of i");
        VotedFrames x = Doc.sensing(4, 0, 10);
        x.fault(3, Doc.FIXED, 2);
        check.due("run(1)", x.run(1), 2);
        check.due("input(0, 1) as a member", x.input(0, 1), 200);
        check.due("members(0)", x.members(0), 13);
        check.due("run(1)", x.run(1), 0);
        check.due("input(0, 1) as none", x.input(0, 1), 0);
        check.due("input(2, 1) as none", x.input(2, 1), 0);
        check.due("input(1, 0): 1 still takes from 0", x.input(1, 0), 100);
        check.due("input(3, 1): 3 has 1 as a member", x.input(3, 1), 200);
    }

    /** Node 1 tells 207 to node 3 and 200 to the others; 0 has got nothing that it could relay. */
    private static void membersOfRelays(Check check) {
        check.sentence("Terms, for what is relayed", "GETS THROUGH if j is a member of i");
        VotedFrames x = Doc.zeroWithoutOne();
        check.due("members(0)", x.members(0), 29);
        check.due("members(3)", x.members(3), 31);
        x.fault(1, Doc.TWO_FACED, 7);
        x.run(1);
        check.due("input(3, 1): 207, 0, 200 and 200", x.input(3, 1), 0);
        check.due("input(4, 1): 200, 0, 200 and 207", x.input(4, 1), 0);
        VotedFrames y = Doc.sensing(5, 1, 1);
        y.fault(1, Doc.TWO_FACED, 7);
        y.run(1);
        check.due("input(3, 1) with all members", y.input(3, 1), 200);
    }

    private static void membersOfVoters(Check check) {
        check.sentence("Terms, for results", "GETS THROUGH if j is a member of i");
        VotedFrames x = Doc.without(3, 4, 1, 10);
        x.fault(1, Doc.SILENT, 0);
        x.fault(2, Doc.SILENT, 0);
        Doc.everyFrame(x, 0, Doc.NUM, 6);
        x.run(1);
        check.due("word(0, 0): the vote of 3 is not got", x.word(0, 0), 0);
        check.due("word(1, 0): two of three, 0 and itself", x.word(1, 0), 6);
    }

    private static void silentOnes(Check check) {
        check.sentence("Terms", "the kind of j is not SILENT");
        for (int number : new int[] {-5000, 0, 5000}) {
            VotedFrames x = Doc.sensing(5, 0, 10);
            x.fault(2, Doc.SILENT, number);
            x.run(1);
            due(check, "SILENT with " + number, x, 0, 0, 300, 0, 0);
            x.fault(2, Doc.CORRECT, number);
            x.run(1);
            due(check, "CORRECT again", x, 300, 300, 300, 300, 300);
        }
    }

    /** The inputs of node 2 of nodes 0, 1, .. */
    private static void due(Check check, String name, VotedFrames x, int... want) {
        for (int i = 0; i < want.length; i++) {
            check.due(name + ": input(" + i + ", 2)", x.input(i, 2), want[i]);
        }
    }

    private static VotedFrames faulty(int kind, int number, int sensed) {
        VotedFrames x = new VotedFrames(7, 0, 200);
        x.sensor(2, sensed);
        x.fault(2, kind, number);
        return x;
    }

    private static void wrappingInputs(Check check) {
        check.sentence("Terms", "By the kind of j, with sums and products that wrap");
        int max = Doc.MAX;
        int min = Doc.MIN;
        VotedFrames up = faulty(Doc.TWO_FACED, 1, max);
        up.run(1);
        due(check, "TWO-FACED up", up, max, min, max, min, max, min, max);
        VotedFrames down = faulty(Doc.TWO_FACED, -1, min);
        down.run(1);
        due(check, "TWO-FACED down", down, min, max, min, max, min, max, min);
        VotedFrames spread = faulty(Doc.SPREADING, -1, min);
        spread.run(1);
        due(check, "SPREADING down", spread, max, max - 1, min, max - 3, max - 4, max - 5, max - 6);
        VotedFrames far = faulty(Doc.SPREADING, 5000, max);
        far.run(1);
        due(check, "SPREADING up", far,
            min + 4999, min + 9999, max, min + 19999, min + 24999, min + 29999, min + 34999);
    }

    /** Inputs of 2 are MAX, MIN, MAX, MIN; what 2 says for its MAX to 1 and 3 is MIN. */
    private static void wrappingResults(Check check) {
        check.sentence("Terms, for results", "with sums and products that wrap");
        VotedFrames x = new VotedFrames(4, 0, 10);
        x.sensor(2, Doc.MAX);
        x.fault(2, Doc.TWO_FACED, 1);
        Doc.everyFrame(x, 0, Doc.IN, 2);
        x.run(1);
        check.due("word(0, 0): two of four", x.word(0, 0), 0);
        check.due("word(1, 0): three of four", x.word(1, 0), Doc.MIN);
        check.due("word(3, 0): three of four", x.word(3, 0), Doc.MIN);
        check.due("accused(1): 0 has another value", x.accused(1), 1);
    }

    /** Clock of node 2 at 60, DELTA 200, 7 members: the corrections of 0, 1, .. by what 2 shows. */
    private static void shown(Check check, String name, int kind, int number, int... want) {
        VotedFrames x = faulty(kind, number, 0);
        x.clock(2, 60, 0);
        check.due(name + ": run(1)", x.run(1), 0);
        for (int i = 0; i < want.length; i++) {
            if (i != 2) {
                check.due(name + ": correction(" + i + ")", x.correction(i), Math.floorDiv(want[i], 7));
            }
        }
    }

    private static void correctOnes(Check check) {
        check.sentence("Terms", "0 CORRECT: says v, shows its clock.");
        for (int number : new int[] {-5000, 0, 5000}) {
            VotedFrames x = faulty(Doc.CORRECT, number, 9);
            x.run(1);
            due(check, "with " + number, x, 9, 9, 9, 9, 9, 9, 9);
            shown(check, "with " + number, Doc.CORRECT, number, 60, 60, 60, 60, 60, 60, 60);
        }
    }

    private static void silentClocks(Check check) {
        check.sentence("Terms", "1 SILENT: says nothing, its clock can't be read.");
        shown(check, "SILENT", Doc.SILENT, 40, 0, 0, 0, 0, 0, 0, 0);
        VotedFrames x = faulty(Doc.SILENT, 40, 9);
        x.run(2);
        due(check, "SILENT", x, 0, 0, 9, 0, 0, 0, 0);
    }

    private static void fixedOnes(Check check) {
        check.sentence("Terms", "2 FIXED: says x for every v, shows x as its clock.");
        for (int number : new int[] {-5000, 0, 5000}) {
            for (int sensed : new int[] {Doc.MIN, 0, Doc.MAX}) {
                VotedFrames x = faulty(Doc.FIXED, number, sensed);
                x.run(1);
                due(check, "FIXED " + number, x, number, number, sensed, number, number, number, number);
            }
        }
        shown(check, "FIXED 128", Doc.FIXED, NO_SET, 128, 128, 0, 128, 128, 128, 128);
        shown(check, "FIXED 0", Doc.FIXED, 0, 0, 0, 0, 0, 0, 0, 0);
        shown(check, "FIXED -128", Doc.FIXED, -NO_SET, -128, -128, 0, -128, -128, -128, -128);
        shown(check, "FIXED 256", Doc.FIXED, 2 * NO_SET, 0, 0, 0, 0, 0, 0, 0);
        VotedFrames far = faulty(Doc.FIXED, NO_SET, 0);
        far.clock(2, 500, 0);
        far.run(1);
        check.due("correction(0): what is shown counts, not the clock", far.correction(0), 18);
    }

    private static void twoFacedOnes(Check check) {
        check.sentence("Terms", "3 TWO-FACED: to nodes with an odd number says v + x and shows its clock + x; "
            + "to the others v and its clock.");
        VotedFrames x = faulty(Doc.TWO_FACED, NO_SET, 9);
        x.run(2);
        due(check, "TWO-FACED", x, 9, 137, 9, 137, 9, 137, 9);
        shown(check, "TWO-FACED", Doc.TWO_FACED, NO_SET, 60, 188, 60, 188, 60, 188, 60);
        shown(check, "TWO-FACED down", Doc.TWO_FACED, -NO_SET, 60, -68, 60, -68, 60, -68, 60);
        VotedFrames odd = new VotedFrames(4, 0, 10);
        odd.sensor(3, 9);
        odd.fault(3, Doc.TWO_FACED, NO_SET);
        odd.run(1);
        check.due("input(0, 3)", odd.input(0, 3), 9);
        check.due("input(1, 3)", odd.input(1, 3), 137);
        check.due("input(2, 3)", odd.input(2, 3), 9);
    }

    private static void spreadingOnes(Check check) {
        check.sentence("Terms",
            "4 SPREADING: to node i says v + x * (i + 1), shows its clock + x * (i + 1).");
        VotedFrames x = faulty(Doc.SPREADING, NO_SET, 9);
        x.run(2);
        due(check, "SPREADING", x, 137, 265, 9, 521, 649, 777, 905);
        shown(check, "SPREADING", Doc.SPREADING, NO_SET, 188, 0, 0, 0, 0, 0, 0);
        shown(check, "SPREADING down", Doc.SPREADING, -NO_SET, -68, -196, 0, 0, 0, 0, 0);
        shown(check, "SPREADING 0", Doc.SPREADING, 0, 60, 60, 60, 60, 60, 60, 60);
        VotedFrames near = faulty(Doc.SPREADING, 20, 9);
        near.run(1);
        due(check, "SPREADING 20", near, 29, 49, 9, 89, 109, 129, 149);
    }

    private static void atTimes(Check check) {
        check.sentence("Terms",
            "5 AT TIMES: says x for every v in frames with an odd number, v in the others");
        VotedFrames x = faulty(Doc.AT_TIMES, NO_SET, 9);
        for (int f = 0; f < 6; f++) {
            x.run(1);
            int said = f % 2 == 0 ? 9 : NO_SET;
            due(check, "AT TIMES in frame " + f, x, said, said, 9, said, said, said, said);
        }
        VotedFrames y = new VotedFrames(4, 1, 10);
        Doc.everyFrame(y, 0, Doc.NUM, 7);
        y.fault(2, Doc.AT_TIMES, 16);
        y.run(1);
        check.due("accused(0) in frame 0", y.accused(0), 0);
        y.run(1);
        check.due("accused(0) in frame 1", y.accused(0), 4);
    }

    private static void atTimesShows(Check check) {
        check.sentence("Terms", "always shows its clock.");
        VotedFrames x = faulty(Doc.AT_TIMES, NO_SET, 0);
        for (int f = 0; f < 4; f++) {
            for (int i = 0; i < 7; i++) {
                x.clock(i, i == 2 ? 60 : 0, 0);
            }
            x.run(1);
            check.due("correction(0) in frame " + f, x.correction(0), 8);
            check.due("correction(1) in frame " + f, x.correction(1), 8);
        }
    }

    /** Node 2 votes, accuses, strikes out the SILENT node 4 and corrects its clock, whatever its kind. */
    private static void faultyOnesDoAllElse(Check check) {
        check.sentence("Terms", "Faulty nodes do all else as CORRECT ones do.");
        for (int kind = 0; kind <= 5; kind++) {
            VotedFrames x = Doc.sensing(7, 2, 10);
            x.clock(0, 12, 0);
            x.clock(2, 0, 1);
            x.fault(2, kind, NO_SET);
            x.fault(4, Doc.SILENT, 0);
            Doc.everyFrame(x, 0, Doc.IN, 1);
            x.run(1);
            check.due("kind " + kind + ": input(2, 0)", x.input(2, 0), 100);
            check.due("kind " + kind + ": input(2, 2)", x.input(2, 2), 300);
            check.due("kind " + kind + ": word(2, 0)", x.word(2, 0), 200);
            check.due("kind " + kind + ": accused(2)", x.accused(2), 16);
            check.due("kind " + kind + ": charge(2, 2)", x.charge(2, 2), 16);
            check.due("kind " + kind + ": members(2)", x.members(2), Doc.all(7) - 16);
            check.due("kind " + kind + ": correction(2): 12 / 6", x.correction(2), 2);
            check.due("kind " + kind + ": reading(2): 0 + 2 + 1", x.reading(2), 3);
        }
    }
}
