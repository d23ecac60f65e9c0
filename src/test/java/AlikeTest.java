/** Promise 20: alike. */
final class AlikeTest {
    public static void main(String[] args) {
        Check check = new Check();
        words(check);
        members(check);
        inputs(check);
        nothingElse(check);
        correctNow(check);
        fewerThanTwo(check);
        check.end();
    }

    /** Node i (at 2, DELTA 1) hears but one node, and has no majority; all sensors are 0. */
    private static void words(Check check) {
        check.sentence("Promise 20", "the same four words");
        for (int i = 0; i < 4; i++) {
            for (int t = 0; t < 4; t++) {
                VotedFrames x = new VotedFrames(4, 1, 1);
                x.clock(i, 2, 0);
                x.link((i + 1) % 4, i, 20, 0);
                x.link((i + 2) % 4, i, 20, 0);
                Doc.everyFrame(x, t, Doc.NUM, 1);
                check.yes("alike() before", x.alike());
                check.due("run(1)", x.run(1), 0);
                check.due("word(" + i + ", " + t + ")", x.word(i, t), 0);
                check.no("alike() with word " + t + " of " + i, x.alike());
                x.fault(i, Doc.SILENT, 0);
                check.yes("alike() of the others", x.alike());
            }
        }
    }

    /** A SILENT node whose word is 0 like all others is struck out by the others alone. */
    private static void members(Check check) {
        check.sentence("Promise 20", "the same members");
        for (int i = 0; i < 5; i++) {
            VotedFrames x = new VotedFrames(5, 1, 10);
            x.fault(i, Doc.SILENT, 0);
            Doc.everyFrame(x, 0, Doc.NUM, 0);
            check.due("run(1)", x.run(1), 4);
            check.yes("alike() of the others", x.alike());
            x.fault(i, Doc.CORRECT, 0);
            check.no("alike(): " + i + " has all as members", x.alike());
        }
    }

    /** Node s says 128 for 3: its own input of itself is another one than theirs. */
    private static void inputs(Check check) {
        check.sentence("Promise 20", "and the same inputs.");
        for (int n = 4; n <= 7; n++) {
            for (int s = 0; s < n; s++) {
                VotedFrames x = new VotedFrames(n, 1, 10);
                x.sensor(s, 3);
                x.fault(s, Doc.FIXED, 128);
                x.run(1);
                check.yes("alike(): " + s + " is not asked", x.alike());
                x.fault(s, Doc.CORRECT, 0);
                check.no("alike(): input(" + s + ", " + s + ") is another", x.alike());
                x.run(1);
                check.yes("alike() again", x.alike());
            }
        }
    }

    /** Node 0 alone does not hear node 1, and accuses it; clocks and corrections differ. */
    private static void nothingElse(Check check) {
        check.sentence("Promise 20", "the same four words, the same members and the same inputs.");
        VotedFrames x = Doc.sensing(5, 1, 1);
        x.clock(0, 2, 1);
        x.link(1, 0, 20, 0);
        Doc.everyFrame(x, 0, Doc.NUM, 5);
        check.due("run(1)", x.run(1), 0);
        check.due("accused(0)", x.accused(0), 2);
        check.due("accused(2)", x.accused(2), 0);
        check.due("correction(0)", x.correction(0), -2);
        check.due("correction(2)", x.correction(2), 0);
        check.yes("alike()", x.alike());
        x.sensor(3, 9);
        x.clock(4, 300, 2);
        check.yes("alike(): sensors and clocks do not count", x.alike());
    }

    private static void correctNow(Check check) {
        check.sentence("Promise 20", "Whether all nodes that are CORRECT now");
        for (int kind = 1; kind <= 5; kind++) {
            VotedFrames x = Doc.without(3, 4, 1, 10);
            check.no("alike(): 3 has all as members", x.alike());
            x.fault(3, kind, 0);
            check.yes("alike() without 3, kind " + kind, x.alike());
            x.fault(3, Doc.CORRECT, 0);
            check.no("alike() with 3 again", x.alike());
        }
    }

    private static void fewerThanTwo(Check check) {
        check.sentence("Promise 20, for one and for none", "Whether all nodes that are CORRECT now");
        VotedFrames x = new VotedFrames(4, 1, 10);
        for (int i = 0; i < 4; i++) {
            x.sensor(i, i + 1);
            x.fault(i, Doc.FIXED, 16);
        }
        x.run(1);
        check.yes("alike() of none", x.alike());
        for (int i = 0; i < 4; i++) {
            x.fault(i, Doc.CORRECT, 0);
            check.yes("alike() of " + i, x.alike());
            x.fault((i + 1) % 4, Doc.CORRECT, 0);
            check.no("alike() of two", x.alike());
            x.fault(i, Doc.FIXED, 16);
            x.fault((i + 1) % 4, Doc.FIXED, 16);
        }
    }
}
