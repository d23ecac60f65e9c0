/** The document's numbers by their names, and short ways to what many tests begin with. */
final class Doc {
    static final int MIN = Integer.MIN_VALUE;
    static final int MAX = Integer.MAX_VALUE;

    static final int CORRECT = 0;
    static final int SILENT = 1;
    static final int FIXED = 2;
    static final int TWO_FACED = 3;
    static final int SPREADING = 4;
    static final int AT_TIMES = 5;

    static final int NUM = 0;
    static final int IN = 1;
    static final int WORD = 2;
    static final int ADD = 3;
    static final int SUB = 4;
    static final int MUL = 5;
    static final int DIV = 6;
    static final int LESS = 7;
    static final int SKIP = 8;
    static final int COPY = 9;

    private Doc() {
    }

    /** All nodes are members of all: the set of the nodes 0 .. n - 1. */
    static int all(int nodes) {
        return (1 << nodes) - 1;
    }

    /** No numbers of nodes, words or tasks where there are so many of them. */
    static int[] outside(int count) {
        return new int[] {-1, count, count + 1, 31, 32, MIN, MAX};
    }

    /** Every node s senses 100 * (s + 1). */
    static VotedFrames sensing(int nodes, int faults, int delta) {
        VotedFrames x = new VotedFrames(nodes, faults, delta);
        for (int s = 0; s < nodes; s++) {
            x.sensor(s, 100 * (s + 1));
        }
        return x;
    }

    /** Task t gets a program of pairs, instruction and x, and is due in every frame. */
    static void everyFrame(VotedFrames x, int t, int... pairs) {
        for (int k = 0; k < pairs.length; k += 2) {
            x.code(t, pairs[k], pairs[k + 1]);
        }
        x.due(t, 1, 0);
    }

    /**
     * Behind frame 0, in which all others struck out a SILENT node; it is CORRECT
     * again and keeps all nodes as members. No task is due, all words 0 are 1.
     */
    static VotedFrames without(int struckOut, int nodes, int faults, int delta) {
        VotedFrames x = sensing(nodes, faults, delta);
        everyFrame(x, 0, NUM, 1);
        x.fault(struckOut, SILENT, 0);
        x.run(1);
        x.clear(0);
        x.fault(struckOut, CORRECT, 0);
        return x;
    }

    /**
     * Five nodes with m 1 behind frame 0, in which node 0 alone struck out node 1: it did not
     * hear it, node 2 accused node 1 too, and nobody heard node 0. All is set as at first again.
     */
    static VotedFrames zeroWithoutOne() {
        VotedFrames x = sensing(5, 1, 1);
        x.clock(0, 2, 0);
        x.link(1, 0, 20, 0);
        x.fault(0, SILENT, 0);
        x.fault(2, FIXED, 2);
        everyFrame(x, 0, NUM, 2);
        x.run(1);
        x.clear(0);
        x.link(1, 0, 0, 0);
        for (int i = 0; i < 5; i++) {
            x.fault(i, CORRECT, 0);
            x.clock(i, 0, 0);
        }
        return x;
    }
}
