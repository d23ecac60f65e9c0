/** THE SINGLE MACHINE of "Terms", and promise 21. */
final class SoloTest {
    public static void main(String[] args) {
        Check check = new Check();
        leastCorrect(check);
        noneCorrect(check);
        itsOwnWords(check);
        dueTasksFromZeroOn(check);
        everyResult(check);
        wordsStay(check);
        noSuchWord(check);
        check.end();
    }

    /** Bearing 0, node 6 tells node i another number than all others: 7 + 128 * (i + 1). */
    private static void leastCorrect(Check check) {
        check.sentence("Terms", "with its words and the inputs of the CORRECT node with the least number");
        VotedFrames x = new VotedFrames(7, 0, 10);
        x.sensor(6, 7);
        Doc.everyFrame(x, 0, Doc.IN, 6);
        x.fault(6, Doc.SPREADING, 128);
        for (int i = 0; i < 6; i++) {
            x.run(1);
            check.due("solo(0): " + i + " is the least", x.solo(0), 7 + 128 * (i + 1));
            x.fault(i, Doc.AT_TIMES, 0);
            check.due("solo(0) of the latest frame", x.solo(0), 7 + 128 * (i + 1));
        }
        VotedFrames last = new VotedFrames(4, 0, 10);
        last.sensor(3, 7);
        Doc.everyFrame(last, 0, Doc.IN, 3);
        for (int i = 0; i < 3; i++) {
            last.fault(i, Doc.FIXED, 16);
        }
        last.run(1);
        check.due("solo(0) of 3 itself", last.solo(0), 7);
    }

    private static void noneCorrect(Check check) {
        check.sentence("Terms", "(all 0 if there is none)");
        for (int kind = 1; kind <= 5; kind++) {
            VotedFrames x = Doc.sensing(4, 1, 10);
            Doc.everyFrame(x, 0, Doc.IN, 0, Doc.IN, 3, Doc.ADD, 0, Doc.NUM, 3, Doc.ADD, 0);
            x.run(1);
            check.due("solo(0): 100 + 400 + 3", x.solo(0), 503);
            for (int i = 0; i < 4; i++) {
                x.fault(i, kind, 0);
            }
            x.run(1);
            check.due("solo(0) without CORRECT ones, kind " + kind, x.solo(0), 3);
            x.fault(3, Doc.CORRECT, 0);
            x.run(1);
            check.due("solo(0) with one again", x.solo(0), x.input(3, 0) + 400 + 3);
        }
    }

    /** Two pairs that do not hear each other: no word has a majority, but the machine counts on. */
    private static void itsOwnWords(Check check) {
        check.sentence("Terms", "THE SINGLE MACHINE has four words of its own.");
        for (int t = 0; t < 4; t++) {
            VotedFrames x = new VotedFrames(4, 1, 10);
            x.clock(2, 500, 0);
            x.clock(3, 500, 0);
            Doc.everyFrame(x, t, Doc.WORD, t, Doc.NUM, 1, Doc.ADD, 0);
            for (int f = 1; f <= 4; f++) {
                x.run(1);
                check.due("word(0, " + t + ")", x.word(0, t), 0);
                check.due("solo(" + t + ")", x.solo(t), f);
            }
        }
    }

    private static void dueTasksFromZeroOn(Check check) {
        check.sentence("Terms", "In every frame it runs the due tasks from 0 on, in the same way");
        VotedFrames x = new VotedFrames(4, 1, 10);
        Doc.everyFrame(x, 0, Doc.WORD, 3, Doc.NUM, 1, Doc.ADD, 0);
        x.code(3, Doc.WORD, 0);
        x.code(3, Doc.NUM, 10);
        x.code(3, Doc.MUL, 0);
        x.due(3, 2, 1);
        int[][] want = {{1, 0}, {1, 10}, {11, 10}, {11, 110}};
        for (int f = 0; f < 4; f++) {
            x.run(1);
            check.due("solo(0) in frame " + f, x.solo(0), want[f][0]);
            check.due("solo(3) in frame " + f, x.solo(3), want[f][1]);
        }
    }

    private static void everyResult(Check check) {
        check.sentence("Terms", "and its word of a task becomes the result.");
        VotedFrames x = new VotedFrames(4, 1, 10);
        x.due(0, 1, 0);
        Doc.everyFrame(x, 1, Doc.NUM, 1, Doc.NUM, 0, Doc.DIV, 0);
        Doc.everyFrame(x, 2, Doc.NUM, 1, Doc.COPY, 0, Doc.COPY, 0, Doc.COPY, 0, Doc.COPY, 0, Doc.COPY, 0,
            Doc.COPY, 0);
        Doc.everyFrame(x, 3, Doc.NUM, Doc.MIN);
        for (int i = 0; i < 4; i++) {
            x.fault(i, Doc.SILENT, 0);
        }
        x.run(1);
        check.due("word(0, 0): one vote of four", x.word(0, 0), 0);
        check.due("solo(0)", x.solo(0), VotedFrames.SHORT);
        check.due("solo(1)", x.solo(1), VotedFrames.ZERO);
        check.due("solo(2)", x.solo(2), VotedFrames.DEEP);
        check.due("solo(3)", x.solo(3), Doc.MIN);
    }

    private static void wordsStay(Check check) {
        check.sentence("Promise 7", "its words stay.");
        VotedFrames x = new VotedFrames(4, 1, 10);
        Doc.everyFrame(x, 2, Doc.NUM, 6);
        x.run(1);
        check.due("clear(2)", x.clear(2), 1);
        x.run(1);
        check.due("solo(2) stays", x.solo(2), 6);
        x.due(2, 1, 0);
        x.run(1);
        check.due("solo(2) of an empty program", x.solo(2), VotedFrames.SHORT);
    }

    private static void noSuchWord(Check check) {
        check.sentence("Promise 21", "Word t of the single machine; 0 if there is no such word.");
        for (int n = 4; n <= 7; n++) {
            VotedFrames x = new VotedFrames(n, 1, 10);
            for (int t = 0; t < 4; t++) {
                check.due("solo(" + t + ") before a frame", x.solo(t), 0);
                Doc.everyFrame(x, t, Doc.NUM, t + 1);
            }
            x.run(1);
            for (int t = 0; t < 4; t++) {
                check.due("solo(" + t + ")", x.solo(t), t + 1);
            }
            for (int wrong : Doc.outside(4)) {
                check.due("solo(" + wrong + ")", x.solo(wrong), 0);
            }
        }
    }
}
