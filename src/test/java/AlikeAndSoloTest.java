/** Promises 20 and 21: alike and the single machine. */
final class AlikeAndSoloTest {
    private static final int FIXED = 2;

    public static void main(String[] args) {
        Check check = new Check();
        inputsDiffer(check);
        wordsDiffer(check);
        membersDiffer(check);
        fewerThanTwoCorrect(check);
        soloTakesTheLeastCorrect(check);
        soloWithoutCorrect(check);
        soloKeepsItsOwnWords(check);
        wrongWords(check);
        check.end();
    }

    private static void inputsDiffer(Check check) {
        VotedFrames x = new VotedFrames(4, 1, 10);
        x.sensor(3, 3);
        x.fault(3, FIXED, 16);
        x.run(1);
        check.yes("alike(): 3 is not asked", x.alike());
        x.fault(3, 0, 0);
        check.no("alike(): input(3, 3) is another", x.alike());
        x.run(1);
        check.yes("alike() again", x.alike());
    }

    /** Node 0 (at 2) hears node 1 alone, and has no majority; all sensors are 0. */
    private static void wordsDiffer(Check check) {
        for (int t = 0; t < 4; t++) {
            VotedFrames x = new VotedFrames(4, 1, 1);
            x.clock(0, 2, 0);
            x.link(2, 0, 20, 0);
            x.link(3, 0, 20, 0);
            x.code(t, 0, 1);
            x.due(t, 1, 0);
            check.due("run(1)", x.run(1), 0);
            check.due("word(0, t)", x.word(0, t), 0);
            check.due("word(1, t)", x.word(1, t), 1);
            check.due("accused(0)", x.accused(0), 0);
            check.no("alike() with word " + t, x.alike());
            x.fault(0, 1, 0);
            check.yes("alike() of 1, 2 and 3", x.alike());
        }
    }

    /** A SILENT node whose word is 0 like all others is struck out by the others alone. */
    private static void membersDiffer(Check check) {
        VotedFrames x = new VotedFrames(5, 1, 10);
        x.fault(4, 1, 0);
        x.code(0, 0, 0);
        x.due(0, 1, 0);
        check.due("run(1)", x.run(1), 4);
        check.yes("alike() of 0 to 3", x.alike());
        x.fault(4, 0, 0);
        check.no("alike(): members(4) is 31", x.alike());
    }

    private static void fewerThanTwoCorrect(Check check) {
        VotedFrames x = new VotedFrames(4, 1, 10);
        for (int i = 0; i < 4; i++) {
            x.sensor(i, i + 1);
            x.fault(i, FIXED, 16);
        }
        x.run(1);
        check.yes("alike() of none", x.alike());
        x.fault(2, 0, 0);
        check.yes("alike() of one", x.alike());
        x.fault(3, 0, 0);
        check.no("alike() of 2 and 3", x.alike());
    }

    private static void soloTakesTheLeastCorrect(Check check) {
        VotedFrames x = new VotedFrames(4, 1, 10);
        x.sensor(0, 3);
        x.sensor(1, 4);
        x.fault(0, FIXED, 16);
        x.code(0, 1, 0);
        x.due(0, 1, 0);
        x.run(1);
        check.due("solo(0): what 1 agreed on", x.solo(0), 16);
        x.fault(0, 0, 0);
        x.fault(1, FIXED, 32);
        x.clear(0);
        x.code(1, 1, 1);
        x.due(1, 1, 0);
        x.run(1);
        check.due("solo(1): what 0 agreed on", x.solo(1), 32);
        check.due("solo(0) stays", x.solo(0), 16);
    }

    private static void soloWithoutCorrect(Check check) {
        VotedFrames x = new VotedFrames(4, 1, 10);
        x.code(0, 1, 0);
        x.code(0, 0, 3);
        x.code(0, 3, 0);
        x.due(0, 1, 0);
        x.sensor(0, 50);
        x.run(1);
        check.due("solo(0)", x.solo(0), 53);
        for (int i = 0; i < 4; i++) {
            x.fault(i, FIXED, 16);
        }
        x.run(1);
        check.due("solo(0): all inputs are 0", x.solo(0), 3);
    }

    /** Two pairs that do not hear each other: no word has a majority, but the machine counts on. */
    private static void soloKeepsItsOwnWords(Check check) {
        VotedFrames x = new VotedFrames(4, 1, 10);
        x.clock(2, 500, 0);
        x.clock(3, 500, 0);
        x.code(2, 2, 2);
        x.code(2, 0, 1);
        x.code(2, 3, 0);
        x.due(2, 1, 0);
        x.code(3, 2, 2);
        x.due(3, 2, 1);
        x.run(3);
        check.due("word(0, 2)", x.word(0, 2), 0);
        check.due("solo(2)", x.solo(2), 3);
        check.due("solo(3) of frame 1, behind task 2", x.solo(3), 2);
        check.due("clear(2)", x.clear(2), 3);
        check.due("solo(2) stays", x.solo(2), 3);
        x.due(2, 1, 0);
        x.run(1);
        check.due("solo(2) of an empty program", x.solo(2), VotedFrames.SHORT);
    }

    private static void wrongWords(Check check) {
        VotedFrames x = new VotedFrames(4, 1, 10);
        for (int t = 0; t < 4; t++) {
            x.code(t, 0, t + 1);
            x.due(t, 1, 0);
        }
        x.run(1);
        for (int t = 0; t < 4; t++) {
            check.due("solo(" + t + ")", x.solo(t), t + 1);
        }
        for (int wrong : new int[] {-1, 4, Integer.MIN_VALUE, Integer.MAX_VALUE}) {
            check.due("solo(" + wrong + ")", x.solo(wrong), 0);
        }
    }
}
