/** What a program gives: the instructions under "Terms", as words (promise 15) and solo (21) show it. */
final class InstructionsTest {
    private static final int[] SIX = {
        Doc.NUM, 1, Doc.NUM, 2, Doc.NUM, 3, Doc.NUM, 4, Doc.NUM, 5, Doc.NUM, 6,
    };

    public static void main(String[] args) {
        Check check = new Check();
        wrapping(check);
        division(check);
        comparing(check);
        skipping(check);
        skippingMoreThanThereIs(check);
        copying(check);
        inputsAndWords(check);
        emptyStack(check);
        needsMoreThanTheStackHas(check);
        divisionByZero(check);
        seventhInt(check);
        orderOfEndings(check);
        behindTheLast(check);
        check.end();
    }

    /** Runs a program of pairs, instruction and x, as task 0 of a new object. */
    private static void program(Check check, String name, int want, int... pairs) {
        VotedFrames x = new VotedFrames(4, 1, 10);
        x.sensor(0, 70);
        x.sensor(3, -4);
        for (int k = 0; k < pairs.length; k += 2) {
            check.yes(name + ": code", x.code(0, pairs[k], pairs[k + 1]));
        }
        x.due(0, 1, 0);
        check.due(name + ": run", x.run(1), 0);
        for (int i = 0; i < 4; i++) {
            check.due(name + ": word(" + i + ", 0)", x.word(i, 0), want);
        }
        check.due(name + ": solo(0)", x.solo(0), want);
    }

    private static void onSix(Check check, String name, int want, int... behind) {
        int[] pairs = new int[SIX.length + behind.length];
        System.arraycopy(SIX, 0, pairs, 0, SIX.length);
        System.arraycopy(behind, 0, pairs, SIX.length, behind.length);
        program(check, name, want, pairs);
    }

    private static void both(Check check, String name, int want, int a, int b, int op) {
        program(check, name, want, Doc.NUM, a, Doc.NUM, b, op, 0);
    }

    private static void wrapping(Check check) {
        check.sentence("Terms", "Sums, differences and products wrap");
        both(check, "7 + 5", 12, 7, 5, Doc.ADD);
        both(check, "MAX + 1", Doc.MIN, Doc.MAX, 1, Doc.ADD);
        both(check, "MIN + -1", Doc.MAX, Doc.MIN, -1, Doc.ADD);
        both(check, "MIN + MIN", 0, Doc.MIN, Doc.MIN, Doc.ADD);
        both(check, "7 - 5", 2, 7, 5, Doc.SUB);
        both(check, "MIN - 1", Doc.MAX, Doc.MIN, 1, Doc.SUB);
        both(check, "0 - MIN", Doc.MIN, 0, Doc.MIN, Doc.SUB);
        both(check, "MAX - -1", Doc.MIN, Doc.MAX, -1, Doc.SUB);
        both(check, "7 * -5", -35, 7, -5, Doc.MUL);
        both(check, "MAX * 2", -2, Doc.MAX, 2, Doc.MUL);
        both(check, "MIN * -1", Doc.MIN, Doc.MIN, -1, Doc.MUL);
        both(check, "65536 * 65536", 0, 65536, 65536, Doc.MUL);
        both(check, "MAX * MAX", 1, Doc.MAX, Doc.MAX, Doc.MUL);
    }

    private static void division(Check check) {
        check.sentence("Terms", "DIV a / b rounded down (-2^31 / -1 is -2^31)");
        both(check, "MIN / -1", Doc.MIN, Doc.MIN, -1, Doc.DIV);
        both(check, "MIN / 1", Doc.MIN, Doc.MIN, 1, Doc.DIV);
        both(check, "MAX / -1", -Doc.MAX, Doc.MAX, -1, Doc.DIV);
        both(check, "MIN / MAX", -2, Doc.MIN, Doc.MAX, Doc.DIV);
        both(check, "MAX / MIN", -1, Doc.MAX, Doc.MIN, Doc.DIV);
        both(check, "MIN / MIN", 1, Doc.MIN, Doc.MIN, Doc.DIV);
        both(check, "7 / 2", 3, 7, 2, Doc.DIV);
        both(check, "-7 / 2", -4, -7, 2, Doc.DIV);
        both(check, "7 / -2", -4, 7, -2, Doc.DIV);
        both(check, "-7 / -2", 3, -7, -2, Doc.DIV);
        both(check, "-8 / 2", -4, -8, 2, Doc.DIV);
        both(check, "1 / 2", 0, 1, 2, Doc.DIV);
        both(check, "-1 / 2", -1, -1, 2, Doc.DIV);
        both(check, "0 / -5", 0, 0, -5, Doc.DIV);
    }

    private static void comparing(Check check) {
        check.sentence("Terms", "LESS 1 if a < b, else 0");
        both(check, "-3 < 2", 1, -3, 2, Doc.LESS);
        both(check, "2 < 2", 0, 2, 2, Doc.LESS);
        both(check, "3 < 2", 0, 3, 2, Doc.LESS);
        both(check, "1 < 2", 1, 1, 2, Doc.LESS);
        both(check, "MIN < MAX", 1, Doc.MIN, Doc.MAX, Doc.LESS);
        both(check, "MAX < MIN", 0, Doc.MAX, Doc.MIN, Doc.LESS);
    }

    private static void skipping(Check check) {
        check.sentence("Terms", "SKIP takes b; if it is 0 the next x instructions are left out");
        program(check, "on 0", 3, Doc.NUM, 3, Doc.NUM, 0, Doc.SKIP, 1, Doc.NUM, 4);
        program(check, "on 1", 4, Doc.NUM, 3, Doc.NUM, 1, Doc.SKIP, 1, Doc.NUM, 4);
        program(check, "on -1", 4, Doc.NUM, 3, Doc.NUM, -1, Doc.SKIP, 1, Doc.NUM, 4);
        program(check, "on MIN", 4, Doc.NUM, 3, Doc.NUM, Doc.MIN, Doc.SKIP, 1, Doc.NUM, 4);
        program(check, "none", 4, Doc.NUM, 3, Doc.NUM, 0, Doc.SKIP, 0, Doc.NUM, 4);
        program(check, "two", 5, Doc.NUM, 0, Doc.SKIP, 2, Doc.NUM, 3, Doc.COPY, 0, Doc.NUM, 5);
        program(check, "a SKIP", 3, Doc.NUM, 3, Doc.NUM, 0, Doc.SKIP, 1, Doc.SKIP, 5);
        program(check, "takes b from 0", VotedFrames.SHORT, Doc.NUM, 0, Doc.SKIP, 0);
        program(check, "takes b from 1", VotedFrames.SHORT, Doc.NUM, 1, Doc.SKIP, 3);
    }

    private static void skippingMoreThanThereIs(Check check) {
        check.sentence("Terms", "(fewer if there are not so many)");
        program(check, "just as many", 3,
            Doc.NUM, 3, Doc.NUM, 0, Doc.SKIP, 2, Doc.NUM, 4, Doc.ADD, 0);
        program(check, "one less", 3, Doc.NUM, 3, Doc.NUM, 0, Doc.SKIP, 2, Doc.NUM, 4);
        program(check, "eleven of one", 3, Doc.NUM, 3, Doc.NUM, 0, Doc.SKIP, 11, Doc.NUM, 4);
        program(check, "eleven of none", 3, Doc.NUM, 3, Doc.NUM, 0, Doc.SKIP, 11);
        program(check, "eleven of nine", 3, Doc.NUM, 3, Doc.NUM, 0, Doc.SKIP, 11, Doc.ADD, 0,
            Doc.ADD, 0, Doc.ADD, 0, Doc.ADD, 0, Doc.ADD, 0, Doc.ADD, 0, Doc.ADD, 0, Doc.ADD, 0, Doc.ADD, 0);
        VotedFrames x = new VotedFrames(4, 1, 10);
        Doc.everyFrame(x, 0, Doc.NUM, 0, Doc.SKIP, 11);
        Doc.everyFrame(x, 1, Doc.NUM, 6, Doc.NUM, 7);
        x.run(1);
        check.due("word(0, 1): all of its instructions are run", x.word(0, 1), 7);
        check.due("solo(1)", x.solo(1), 7);
    }

    private static void copying(Check check) {
        check.sentence("Terms", "COPY puts b once more, taking nothing.");
        program(check, "9 * 9", 81, Doc.NUM, 9, Doc.COPY, -1, Doc.MUL, 0);
        program(check, "the one below stays", 19, Doc.NUM, 1, Doc.NUM, 9, Doc.COPY, 0, Doc.ADD, 0,
            Doc.ADD, 0);
        program(check, "six of one", 30, Doc.NUM, 5, Doc.COPY, 0, Doc.COPY, 0, Doc.COPY, 0, Doc.COPY, 0,
            Doc.COPY, 0, Doc.ADD, 0, Doc.ADD, 0, Doc.ADD, 0, Doc.ADD, 0, Doc.ADD, 0);
    }

    private static void inputsAndWords(Check check) {
        check.sentence("Terms", "1 IN puts the input of node x .. 2 WORD puts word x");
        program(check, "IN", 66, Doc.IN, 0, Doc.IN, 3, Doc.ADD, 0);
        program(check, "IN of a 0", 0, Doc.IN, 1);
        program(check, "WORD", 0, Doc.WORD, 3);
        VotedFrames x = new VotedFrames(4, 1, 10);
        Doc.everyFrame(x, 1, Doc.NUM, 5);
        Doc.everyFrame(x, 2, Doc.WORD, 1, Doc.WORD, 3, Doc.ADD, 0);
        Doc.everyFrame(x, 3, Doc.WORD, 2, Doc.NUM, 1, Doc.ADD, 0);
        x.run(1);
        check.due("word(0, 2): task 1 came before, task 3 not", x.word(0, 2), 5);
        check.due("word(0, 3)", x.word(0, 3), 6);
        x.run(1);
        check.due("word(3, 2)", x.word(3, 2), 11);
        check.due("solo(2)", x.solo(2), 11);
        check.due("solo(3)", x.solo(3), 12);
    }

    private static void emptyStack(Check check) {
        check.sentence("Terms", "on an empty stack of at most 6 ints, from its first instruction on");
        VotedFrames x = new VotedFrames(4, 1, 10);
        Doc.everyFrame(x, 0, SIX);
        Doc.everyFrame(x, 1, Doc.ADD, 0);
        Doc.everyFrame(x, 2, Doc.COPY, 0);
        x.due(3, 1, 0);
        for (int f = 0; f < 2; f++) {
            x.run(1);
            check.due("word(0, 0): six fit in each frame", x.word(0, 0), 6);
            check.due("word(3, 0): and in each node", x.word(3, 0), 6);
            for (int t = 1; t < 4; t++) {
                check.due("word(0, " + t + "): nothing is left over", x.word(0, t), VotedFrames.SHORT);
                check.due("solo(" + t + ")", x.solo(t), VotedFrames.SHORT);
            }
        }
    }

    private static void needsMoreThanTheStackHas(Check check) {
        check.sentence("Terms", "An instruction that needs more than the stack has (3 to 7 two, 8 and 9 one) "
            + "ends the program with the result SHORT");
        for (int op = Doc.ADD; op <= Doc.LESS; op++) {
            program(check, op + " on nothing", VotedFrames.SHORT, op, 0, Doc.NUM, 1);
            program(check, op + " on one", VotedFrames.SHORT, Doc.NUM, 4, op, 0, Doc.NUM, 1);
            program(check, op + " on two", 1, Doc.NUM, 4, Doc.NUM, 4, op, 0, Doc.NUM, 1);
        }
        program(check, "SKIP on nothing", VotedFrames.SHORT, Doc.SKIP, 0, Doc.NUM, 1);
        program(check, "SKIP on one", 1, Doc.NUM, 4, Doc.SKIP, 0, Doc.NUM, 1);
        program(check, "COPY on nothing", VotedFrames.SHORT, Doc.COPY, 0, Doc.NUM, 1);
        program(check, "COPY on one", 1, Doc.NUM, 4, Doc.COPY, 0, Doc.NUM, 1);
        for (int op = Doc.NUM; op <= Doc.WORD; op++) {
            program(check, op + " needs nothing", 1, op, 0, Doc.NUM, 1);
        }
    }

    private static void divisionByZero(Check check) {
        check.sentence("Terms", "else DIV by 0 ends it with ZERO");
        program(check, "8 / 0", VotedFrames.ZERO, Doc.NUM, 8, Doc.NUM, 0, Doc.DIV, 0, Doc.NUM, 1);
        program(check, "0 / 0", VotedFrames.ZERO, Doc.NUM, 0, Doc.NUM, 0, Doc.DIV, 0, Doc.NUM, 1);
        program(check, "MIN / 0", VotedFrames.ZERO, Doc.NUM, Doc.MIN, Doc.NUM, 0, Doc.DIV, 0);
        program(check, "left out", 5, Doc.NUM, 5, Doc.NUM, 0, Doc.NUM, 0, Doc.SKIP, 1, Doc.DIV, 0,
            Doc.ADD, 0);
        program(check, "8 / 1", 1, Doc.NUM, 8, Doc.NUM, 1, Doc.DIV, 0, Doc.NUM, 1);
    }

    private static void seventhInt(Check check) {
        check.sentence("Terms",
            "else an instruction that would put a seventh int onto the stack ends it with DEEP.");
        onSix(check, "six", 6);
        for (int op : new int[] {Doc.NUM, Doc.IN, Doc.WORD, Doc.COPY}) {
            onSix(check, "a seventh by " + op, VotedFrames.DEEP, op, 0, Doc.ADD, 0);
        }
        int[] results = {11, -1, 30, 0, 1};
        for (int op = Doc.ADD; op <= Doc.LESS; op++) {
            onSix(check, op + " on six", results[op - Doc.ADD], op, 0);
            onSix(check, "six again behind " + op, 8, op, 0, Doc.NUM, 8);
            onSix(check, "a seventh behind " + op, VotedFrames.DEEP, op, 0, Doc.NUM, 8, Doc.NUM, 9);
        }
        onSix(check, "six again behind SKIP", 8, Doc.SKIP, 0, Doc.NUM, 8);
        program(check, "a seventh left out", 5, Doc.NUM, 1, Doc.NUM, 2, Doc.NUM, 3, Doc.NUM, 4,
            Doc.NUM, 5, Doc.NUM, 0, Doc.SKIP, 2, Doc.NUM, 7, Doc.NUM, 8);
    }

    private static void orderOfEndings(Check check) {
        check.sentence("Terms", "SHORT; else .. ZERO; else .. DEEP.");
        program(check, "DIV on a 0 alone", VotedFrames.SHORT, Doc.NUM, 0, Doc.DIV, 0);
        program(check, "DIV by 0 on six", VotedFrames.ZERO, Doc.NUM, 1, Doc.NUM, 2, Doc.NUM, 3, Doc.NUM, 4,
            Doc.NUM, 5, Doc.NUM, 0, Doc.DIV, 0, Doc.NUM, 7, Doc.NUM, 8);
        program(check, "the first ending counts", VotedFrames.SHORT, Doc.ADD, 0, Doc.NUM, 1, Doc.NUM, 0,
            Doc.DIV, 0);
    }

    private static void behindTheLast(Check check) {
        check.sentence("Terms", "Behind the last instruction the program ends with the top as its result, "
            + "SHORT if the stack is empty.");
        program(check, "no instruction", VotedFrames.SHORT);
        program(check, "emptied by SKIP", VotedFrames.SHORT, Doc.NUM, 1, Doc.SKIP, 0);
        program(check, "the top of one", 17, Doc.NUM, 17);
        program(check, "the top of two", 18, Doc.NUM, 17, Doc.NUM, 18);
        program(check, "a 0 at the top", 0, Doc.NUM, 17, Doc.NUM, 0);
        program(check, "a number like SHORT", VotedFrames.SHORT, Doc.NUM, VotedFrames.SHORT);
    }
}
