/** Promises 6 to 8: code, clear and due, and what a program gives. */
final class TasksTest {
    private static final int MIN = Integer.MIN_VALUE;
    private static final int MAX = Integer.MAX_VALUE;
    private static final int NUM = 0;
    private static final int IN = 1;
    private static final int WORD = 2;
    private static final int ADD = 3;
    private static final int SUB = 4;
    private static final int MUL = 5;
    private static final int DIV = 6;
    private static final int LESS = 7;
    private static final int SKIP = 8;
    private static final int COPY = 9;

    public static void main(String[] args) {
        Check check = new Check();
        arithmetic(check);
        inputsAndWords(check);
        skips(check);
        endings(check);
        codeBounds(check);
        clears(check);
        dueFrames(check);
        wrongDues(check);
        check.end();
    }

    /** Runs a program of pairs, instruction and x, as task 0 of a new object. */
    private static void program(Check check, String name, int want, int... pairs) {
        VotedFrames x = new VotedFrames(4, 1, 10);
        x.sensor(0, 70);
        x.sensor(3, -4);
        for (int k = 0; k < pairs.length; k += 2) {
            check.yes(name + ": code", x.code(0, pairs[k], pairs[k + 1]));
        }
        x.due(0, 1, 0);
        check.due(name + ": run", x.run(1), 0);
        for (int i = 0; i < 4; i++) {
            check.due(name + ": word(" + i + ", 0)", x.word(i, 0), want);
        }
        check.due(name + ": solo(0)", x.solo(0), want);
    }

    private static void arithmetic(Check check) {
        program(check, "NUM", 17, NUM, 17);
        program(check, "NUM MIN", MIN, NUM, MIN);
        program(check, "ADD", 12, NUM, 7, NUM, 5, ADD, 99);
        program(check, "ADD wraps", MIN, NUM, MAX, NUM, 1, ADD, 0);
        program(check, "SUB", 2, NUM, 7, NUM, 5, SUB, MIN);
        program(check, "SUB wraps", MAX, NUM, MIN, NUM, 1, SUB, 0);
        program(check, "MUL", -35, NUM, 7, NUM, -5, MUL, MAX);
        program(check, "MUL wraps", -2, NUM, MAX, NUM, 2, MUL, 0);
        program(check, "DIV", 3, NUM, 7, NUM, 2, DIV, 0);
        program(check, "DIV rounds down", -4, NUM, -7, NUM, 2, DIV, 0);
        program(check, "DIV by a negative", -4, NUM, 7, NUM, -2, DIV, 0);
        program(check, "DIV of two negatives", 3, NUM, -7, NUM, -2, DIV, 0);
        program(check, "DIV of MIN by -1", MIN, NUM, MIN, NUM, -1, DIV, 0);
        program(check, "DIV by 1", -7, NUM, -7, NUM, 1, DIV, 0);
        program(check, "DIV of 0", 0, NUM, 0, NUM, 5, DIV, 0);
        program(check, "LESS", 1, NUM, -3, NUM, 2, LESS, 0);
        program(check, "LESS of equals", 0, NUM, 2, NUM, 2, LESS, 0);
        program(check, "LESS of the greater", 0, NUM, 3, NUM, 2, LESS, 0);
        program(check, "LESS of the ends", 1, NUM, MIN, NUM, MAX, LESS, 0);
        program(check, "COPY", 81, NUM, 9, COPY, -1, MUL, 0);
    }

    private static void inputsAndWords(Check check) {
        program(check, "IN", 66, IN, 0, IN, 3, ADD, 0);
        program(check, "IN of a 0", 0, IN, 1);
        program(check, "WORD", 0, WORD, 3);
        VotedFrames x = new VotedFrames(4, 1, 10);
        x.code(1, NUM, 5);
        x.due(1, 1, 0);
        x.code(2, WORD, 1);
        x.code(2, WORD, 3);
        x.code(2, ADD, 0);
        x.due(2, 1, 0);
        x.code(3, WORD, 2);
        x.code(3, NUM, 1);
        x.code(3, ADD, 0);
        x.due(3, 1, 0);
        x.run(1);
        check.due("word(0, 2): task 1 came before, task 3 not", x.word(0, 2), 5);
        check.due("word(0, 3)", x.word(0, 3), 6);
        x.run(1);
        check.due("word(3, 2)", x.word(3, 2), 11);
        check.due("solo(2)", x.solo(2), 11);
        check.due("solo(3)", x.solo(3), 12);
    }

    private static void skips(Check check) {
        program(check, "SKIP taken", 3, NUM, 3, NUM, 0, SKIP, 1, NUM, 4);
        program(check, "SKIP not taken", 4, NUM, 3, NUM, 1, SKIP, 1, NUM, 4);
        program(check, "SKIP not taken on -1", 4, NUM, 3, NUM, -1, SKIP, 1, NUM, 4);
        program(check, "SKIP of 0", 4, NUM, 3, NUM, 0, SKIP, 0, NUM, 4);
        program(check, "SKIP of two", 5, NUM, 0, SKIP, 2, NUM, 3, NUM, 4, NUM, 5);
        program(check, "SKIP to the end", 3, NUM, 3, NUM, 0, SKIP, 2, NUM, 4, ADD, 0);
        program(check, "SKIP beyond the end", 3, NUM, 3, NUM, 0, SKIP, 11, NUM, 4);
        program(check, "SKIP over a SKIP", 3, NUM, 3, NUM, 0, SKIP, 1, SKIP, 5);
        program(check, "SKIP as the last", 3, NUM, 3, NUM, 0, SKIP, 4);
        program(check, "SKIP takes the top", VotedFrames.SHORT, NUM, 1, SKIP, 3);
    }

    private static void endings(Check check) {
        program(check, "empty", VotedFrames.SHORT);
        for (int op = ADD; op <= LESS; op++) {
            program(check, "op " + op + " on nothing", VotedFrames.SHORT, op, 0, NUM, 1);
            program(check, "op " + op + " on one", VotedFrames.SHORT, NUM, 0, op, 0, NUM, 1);
        }
        program(check, "SKIP on nothing", VotedFrames.SHORT, SKIP, 0, NUM, 1);
        program(check, "COPY on nothing", VotedFrames.SHORT, COPY, 0, NUM, 1);
        program(check, "DIV by 0", VotedFrames.ZERO, NUM, 8, NUM, 0, DIV, 0, NUM, 1);
        program(check, "DIV of 0 by 0", VotedFrames.ZERO, NUM, 0, NUM, 0, DIV, 0);
        program(check, "six", 6, NUM, 1, NUM, 2, NUM, 3, NUM, 4, NUM, 5, NUM, 6);
        int[] seventh = {NUM, IN, WORD, COPY};
        for (int op : seventh) {
            program(check, "a seventh by " + op, VotedFrames.DEEP,
                NUM, 1, NUM, 2, NUM, 3, NUM, 4, NUM, 5, NUM, 6, op, 0, ADD, 0);
        }
        program(check, "ADD on six", 11, NUM, 1, NUM, 2, NUM, 3, NUM, 4, NUM, 5, NUM, 6, ADD, 0);
        program(check, "DIV by 0 on six", VotedFrames.ZERO,
            NUM, 1, NUM, 2, NUM, 3, NUM, 4, NUM, 5, NUM, 0, DIV, 0);
        program(check, "six again behind ADD", 8,
            NUM, 1, NUM, 2, NUM, 3, NUM, 4, NUM, 5, NUM, 6, ADD, 0, NUM, 8);
        program(check, "SKIP on six", 5,
            NUM, 1, NUM, 2, NUM, 3, NUM, 4, NUM, 5, NUM, 0, SKIP, 1, NUM, 7);
    }

    private static void codeBounds(Check check) {
        VotedFrames x = new VotedFrames(5, 1, 10);
        for (int t : new int[] {-1, 4, MIN, MAX}) {
            check.no("code of no task " + t, x.code(t, NUM, 1));
        }
        for (int op : new int[] {-1, 10, MIN, MAX}) {
            check.no("code of no instruction " + op, x.code(0, op, 0));
        }
        for (int number : new int[] {-1, 5, 7, MIN, MAX}) {
            check.no("IN " + number, x.code(0, IN, number));
        }
        for (int number : new int[] {-1, 4, MIN, MAX}) {
            check.no("WORD " + number, x.code(0, WORD, number));
        }
        for (int number : new int[] {-1, 12, MIN, MAX}) {
            check.no("SKIP " + number, x.code(0, SKIP, number));
        }
        check.due("clear(0): nothing was added", x.clear(0), 0);
        check.yes("IN 4", x.code(0, IN, 4));
        check.yes("WORD 3", x.code(0, WORD, 3));
        check.yes("SKIP 11", x.code(0, SKIP, 11));
        check.yes("SKIP 0", x.code(0, SKIP, 0));
        for (int op : new int[] {NUM, ADD, SUB, MUL, DIV, LESS, COPY}) {
            check.yes("any int for " + op, x.code(0, op, MIN));
        }
        check.yes("the twelfth", x.code(0, NUM, MAX));
        check.no("a thirteenth", x.code(0, NUM, 1));
        check.no("a thirteenth again", x.code(0, COPY, 1));
        check.yes("another task has room", x.code(3, NUM, 1));
        check.due("clear(0)", x.clear(0), 12);
        check.yes("room again", x.code(0, NUM, 1));
        VotedFrames four = new VotedFrames(4, 1, 10);
        check.no("IN 4 of four nodes", four.code(0, IN, 4));
        check.yes("IN 3 of four nodes", four.code(0, IN, 3));
        VotedFrames seven = new VotedFrames(7, 1, 10);
        check.yes("IN 6 of seven nodes", seven.code(0, IN, 6));
        check.no("IN 7 of seven nodes", seven.code(0, IN, 7));
    }

    private static void clears(Check check) {
        VotedFrames x = new VotedFrames(4, 1, 10);
        for (int t : new int[] {-1, 4, MIN, MAX}) {
            check.due("clear of no task " + t, x.clear(t), -1);
        }
        x.code(1, NUM, 3);
        x.code(1, NUM, 4);
        x.due(1, 1, 0);
        x.code(2, NUM, 9);
        x.due(2, 1, 0);
        x.run(1);
        check.due("clear(1)", x.clear(1), 2);
        check.due("clear(1) again", x.clear(1), 0);
        check.due("word(0, 1) stays", x.word(0, 1), 4);
        x.code(1, NUM, 5);
        x.run(1);
        check.due("word(0, 1): no period", x.word(0, 1), 4);
        check.due("solo(1)", x.solo(1), 4);
        check.due("word(0, 2)", x.word(0, 2), 9);
        x.due(1, 1, 0);
        x.run(1);
        check.due("word(0, 1): the new program alone", x.word(0, 1), 5);
        check.due("clear(1)", x.clear(1), 1);
        check.due("clear(2)", x.clear(2), 1);
    }

    private static void dueFrames(Check check) {
        for (int period = 1; period <= 8; period++) {
            for (int phase = 0; phase < period; phase++) {
                VotedFrames x = new VotedFrames(4, 1, 10);
                x.code(3, WORD, 3);
                x.code(3, NUM, 1);
                x.code(3, ADD, 0);
                check.yes("due(3, " + period + ", " + phase + ")", x.due(3, period, phase));
                int times = 0;
                for (int f = 0; f < 18; f++) {
                    x.run(1);
                    times += f % period == phase ? 1 : 0;
                    check.due("word(1, 3) of due " + period + ", " + phase, x.word(1, 3), times);
                }
            }
        }
    }

    private static void wrongDues(Check check) {
        VotedFrames x = new VotedFrames(4, 1, 10);
        x.code(0, WORD, 0);
        x.code(0, NUM, 1);
        x.code(0, ADD, 0);
        x.due(0, 2, 1);
        for (int t : new int[] {-1, 4, MIN, MAX}) {
            check.no("due of no task " + t, x.due(t, 1, 0));
        }
        for (int period : new int[] {-1, 0, 9, MIN, MAX}) {
            check.no("due(0, " + period + ", 0)", x.due(0, period, 0));
            check.no("due(0, " + period + ", -1)", x.due(0, period, -1));
        }
        for (int period = 1; period <= 8; period++) {
            for (int phase : new int[] {-1, period, MIN, MAX}) {
                check.no("due(0, " + period + ", " + phase + ")", x.due(0, period, phase));
            }
        }
        x.run(1);
        check.due("word(0, 0) in frame 0", x.word(0, 0), 0);
        x.run(1);
        check.due("word(0, 0) in frame 1", x.word(0, 0), 1);
        x.due(1, 1, 0);
        x.run(1);
        check.due("word(0, 1): a due task without a program", x.word(0, 1), VotedFrames.SHORT);
        x.due(1, 8, 7);
        x.code(1, NUM, 6);
        x.run(1);
        check.due("word(0, 1): the new period counts", x.word(0, 1), VotedFrames.SHORT);
        x.run(4);
        check.due("word(0, 1) in frame 7", x.word(0, 1), 6);
    }
}
