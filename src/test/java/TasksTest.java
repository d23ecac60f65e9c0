/** Promises 6 to 8: code, clear and due, and when a task is due. */
final class TasksTest {
    public static void main(String[] args) {
        Check check = new Check();
        codeBounds(check);
        noSuchTaskOrInstruction(check);
        twelveInstructions(check);
        twelveAreRun(check);
        numbersOfIn(check);
        numbersOfWord(check);
        numbersOfSkip(check);
        anyNumberElsewhere(check);
        clearEmpties(check);
        clearCounts(check);
        dueBounds(check);
        wrongDues(check);
        dueFrames(check);
        periodOrNone(check);
        check.end();
    }

    private static void codeBounds(Check check) {
        check.sentence("Promise 6",
            "Adds an instruction op (0 .. 9) with x to the end of the program of task t (0 .. 3)");
        for (int t = 0; t < 4; t++) {
            VotedFrames x = new VotedFrames(4, 1, 10);
            for (int op = 0; op <= 9; op++) {
                check.yes("code(" + t + ", " + op + ", 0)", x.code(t, op, 0));
            }
            for (int other = 0; other < 4; other++) {
                check.due("clear(" + other + ")", x.clear(other), other == t ? 10 : 0);
            }
            x.due(t, 1, 0);
            x.code(t, Doc.NUM, 1);
            x.code(t, Doc.NUM, 2);
            x.run(1);
            check.due("word(0, " + t + "): the end is run last", x.word(0, t), 2);
        }
    }

    private static void noSuchTaskOrInstruction(Check check) {
        check.sentence("Promise 6", "false if there is no such task or instruction");
        VotedFrames x = new VotedFrames(4, 1, 10);
        for (int t : Doc.outside(4)) {
            check.no("code of no task " + t, x.code(t, Doc.NUM, 1));
        }
        for (int op : Doc.outside(10)) {
            for (int t = 0; t < 4; t++) {
                check.no("code of no instruction " + op, x.code(t, op, 0));
            }
        }
        for (int t = 0; t < 4; t++) {
            check.due("clear(" + t + "): nothing was added", x.clear(t), 0);
        }
    }

    private static void twelveInstructions(Check check) {
        check.sentence("Promise 6", "the program has 12");
        for (int t = 0; t < 4; t++) {
            VotedFrames x = new VotedFrames(4, 1, 10);
            for (int k = 1; k <= 12; k++) {
                check.yes("instruction " + k, x.code(t, Doc.COPY, k));
            }
            for (int op = 0; op <= 9; op++) {
                check.no("a thirteenth, " + op, x.code(t, op, 0));
            }
            check.yes("another task has room", x.code((t + 1) % 4, Doc.NUM, 1));
            check.due("clear(" + t + ")", x.clear(t), 12);
            check.yes("room again", x.code(t, Doc.NUM, 1));
            check.due("clear(" + t + ") again", x.clear(t), 1);
        }
    }

    private static void twelveAreRun(Check check) {
        check.sentence("Terms", "each with a program of at most 12 instructions");
        VotedFrames x = new VotedFrames(4, 1, 10);
        x.code(3, Doc.NUM, 1);
        for (int k = 0; k < 5; k++) {
            x.code(3, Doc.COPY, 0);
            x.code(3, Doc.ADD, 0);
        }
        x.code(3, Doc.COPY, 0);
        check.no("a thirteenth", x.code(3, Doc.NUM, 7));
        x.due(3, 1, 0);
        x.run(1);
        check.due("word(0, 3): 1 doubled five times", x.word(0, 3), 32);
        x.clear(3);
        for (int k = 1; k <= 6; k++) {
            x.code(3, Doc.NUM, k);
        }
        for (int k = 0; k < 5; k++) {
            x.code(3, Doc.ADD, 0);
        }
        check.yes("the twelfth", x.code(3, Doc.COPY, 0));
        x.due(3, 1, 0);
        x.run(1);
        check.due("word(0, 3): 1 + 2 + 3 + 4 + 5 + 6", x.word(0, 3), 21);
        x.clear(3);
        for (int k = 0; k < 5; k++) {
            x.code(3, Doc.NUM, 0);
            x.code(3, Doc.SKIP, 0);
        }
        x.code(3, Doc.NUM, 8);
        check.yes("the twelfth", x.code(3, Doc.NUM, 9));
        x.due(3, 1, 0);
        x.run(1);
        check.due("word(0, 3): the twelfth is run too", x.word(0, 3), 9);
    }

    private static void numbersOfIn(Check check) {
        check.sentence("Promise 6", "or x is not: for IN a node");
        for (int n = 4; n <= 7; n++) {
            VotedFrames x = Doc.sensing(n, 1, 10);
            for (int number : Doc.outside(n)) {
                check.no("IN " + number + " of " + n + " nodes", x.code(0, Doc.IN, number));
            }
            check.due("clear(0): nothing was added", x.clear(0), 0);
            check.yes("IN 0", x.code(0, Doc.IN, 0));
            check.yes("IN of the last node", x.code(1, Doc.IN, n - 1));
            x.due(0, 1, 0);
            x.due(1, 1, 0);
            x.run(1);
            check.due("word(1, 0)", x.word(1, 0), 100);
            check.due("word(1, 1)", x.word(1, 1), 100 * n);
        }
    }

    private static void numbersOfWord(Check check) {
        check.sentence("Promise 6", "for WORD 0 .. 3");
        for (int n = 4; n <= 7; n++) {
            VotedFrames x = new VotedFrames(n, 1, 10);
            for (int number : Doc.outside(4)) {
                check.no("WORD " + number + " with " + n + " nodes", x.code(0, Doc.WORD, number));
            }
            check.due("clear(0): nothing was added", x.clear(0), 0);
            for (int number = 0; number < 4; number++) {
                check.yes("WORD " + number, x.code(0, Doc.WORD, number));
            }
        }
    }

    private static void numbersOfSkip(Check check) {
        check.sentence("Promise 6", "for SKIP 0 .. 11.");
        VotedFrames x = new VotedFrames(4, 1, 10);
        for (int number : Doc.outside(12)) {
            check.no("SKIP " + number, x.code(0, Doc.SKIP, number));
        }
        check.due("clear(0): nothing was added", x.clear(0), 0);
        for (int number = 0; number < 12; number++) {
            check.yes("SKIP " + number, x.code(0, Doc.SKIP, number));
        }
    }

    private static void anyNumberElsewhere(Check check) {
        check.sentence("Promise 6", "Elsewhere x may be any int; it says something for NUM alone.");
        int[] ops = {Doc.ADD, Doc.SUB, Doc.MUL, Doc.DIV, Doc.LESS, Doc.COPY};
        int[] results = {26, 14, 120, 3, 0, 6};
        for (int number : new int[] {Doc.MIN, -1, 0, 1, 12, 5000, Doc.MAX}) {
            for (int k = 0; k < ops.length; k++) {
                VotedFrames x = new VotedFrames(4, 1, 10);
                x.code(0, Doc.NUM, 20);
                x.code(0, Doc.NUM, 6);
                check.yes("op " + ops[k] + " with " + number, x.code(0, ops[k], number));
                x.due(0, 1, 0);
                x.run(1);
                check.due("op " + ops[k] + " with " + number, x.word(0, 0), results[k]);
            }
            VotedFrames y = new VotedFrames(4, 1, 10);
            check.yes("NUM " + number, y.code(0, Doc.NUM, number));
            y.due(0, 1, 0);
            y.run(1);
            check.due("NUM " + number, y.word(0, 0), number);
        }
    }

    private static void clearEmpties(Check check) {
        check.sentence("Promise 7",
            "Empties the program of task t and takes its period away; its words stay.");
        for (int t = 0; t < 4; t++) {
            VotedFrames x = new VotedFrames(4, 1, 10);
            for (int every = 0; every < 4; every++) {
                Doc.everyFrame(x, every, Doc.NUM, 3, Doc.NUM, 4 + every);
            }
            x.run(1);
            x.clear(t);
            check.due("word(0, " + t + ") stays", x.word(0, t), 4 + t);
            check.due("solo(" + t + ") stays", x.solo(t), 4 + t);
            x.code(t, Doc.NUM, 50);
            check.due("run(1)", x.run(1), 0);
            for (int every = 0; every < 4; every++) {
                check.due("word(3, " + every + "): no period", x.word(3, every), 4 + every);
                check.due("solo(" + every + ")", x.solo(every), 4 + every);
            }
            x.due(t, 1, 0);
            x.run(1);
            check.due("word(3, " + t + "): the new program alone", x.word(3, t), 50);
        }
    }

    private static void clearCounts(Check check) {
        check.sentence("Promise 7", "How many instructions it had; -1 if there is no such task.");
        VotedFrames x = new VotedFrames(4, 1, 10);
        for (int t : Doc.outside(4)) {
            check.due("clear(" + t + ")", x.clear(t), -1);
        }
        for (int length = 0; length <= 12; length++) {
            for (int k = 0; k < length; k++) {
                x.code(2, Doc.NUM, k);
            }
            check.due("clear(2) of " + length, x.clear(2), length);
            check.due("clear(2) again", x.clear(2), 0);
        }
    }

    private static void dueBounds(Check check) {
        check.sentence("Promise 8",
            "Task t (0 .. 3) gets a period (1 .. 8) and a phase (0 .. period - 1)");
        for (int t = 0; t < 4; t++) {
            for (int period = 1; period <= 8; period++) {
                for (int phase = 0; phase < period; phase++) {
                    VotedFrames x = new VotedFrames(4, 1, 10);
                    x.code(t, Doc.NUM, 5);
                    check.yes("due(" + t + ", " + period + ", " + phase + ")",
                        x.due(t, period, phase));
                    int first = 0;
                    while (first < 9 && x.word(0, t) == 0) {
                        x.run(1);
                        first++;
                    }
                    check.due("first frame of " + period + ", " + phase, first - 1, phase);
                }
            }
        }
    }

    private static void wrongDues(Check check) {
        check.sentence("Promise 8", "false if one of these is not as said.");
        VotedFrames x = new VotedFrames(4, 1, 10);
        x.code(0, Doc.WORD, 0);
        x.code(0, Doc.NUM, 1);
        x.code(0, Doc.ADD, 0);
        x.due(0, 2, 1);
        for (int t : Doc.outside(4)) {
            check.no("due of no task " + t, x.due(t, 1, 0));
        }
        for (int period : new int[] {-1, 0, 9, Doc.MIN, Doc.MAX}) {
            for (int phase : new int[] {-2, -1, 0, 1, 8}) {
                check.no("due(0, " + period + ", " + phase + ")", x.due(0, period, phase));
            }
        }
        for (int period = 1; period <= 8; period++) {
            for (int phase : new int[] {-1, period, Doc.MIN, Doc.MAX}) {
                check.no("due(0, " + period + ", " + phase + ")", x.due(0, period, phase));
            }
        }
        for (int f = 0; f < 6; f++) {
            x.run(1);
            check.due("word(0, 0) in frame " + f, x.word(0, 0), (f + 1) / 2);
        }
    }

    private static void dueFrames(Check check) {
        check.sentence("Terms",
            "It is DUE in frame f if it has a period and f divided by the period leaves the phase.");
        for (int period = 1; period <= 8; period++) {
            for (int phase = 0; phase < period; phase++) {
                VotedFrames x = new VotedFrames(4, 1, 10);
                x.code(3, Doc.WORD, 3);
                x.code(3, Doc.NUM, 1);
                x.code(3, Doc.ADD, 0);
                x.due(3, period, phase);
                int times = 0;
                for (int f = 0; f < 18; f++) {
                    x.run(1);
                    times += f % period == phase ? 1 : 0;
                    check.due("word(1, 3) of due " + period + ", " + phase, x.word(1, 3), times);
                }
            }
        }
    }

    private static void periodOrNone(Check check) {
        check.sentence("Terms", "and a period and a phase or none.");
        VotedFrames x = new VotedFrames(4, 1, 10);
        x.due(1, 1, 0);
        x.run(1);
        check.due("word(0, 1): a due task without a program", x.word(0, 1), VotedFrames.SHORT);
        x.due(1, 8, 7);
        x.code(1, Doc.NUM, 6);
        x.run(4);
        check.due("word(0, 1) up to frame 4: the new period counts", x.word(0, 1), VotedFrames.SHORT);
        x.run(3);
        check.due("word(0, 1) in frame 7", x.word(0, 1), 6);
        x.clear(1);
        x.code(1, Doc.NUM, 9);
        x.run(4);
        x.run(4);
        x.run(4);
        check.due("word(0, 1): none", x.word(0, 1), 6);
    }
}
