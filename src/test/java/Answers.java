/** All that an object can be asked without being changed, as one row. */
final class Answers {
    private Answers() {
    }

    /** Asks for the numbers before the first and behind the last node and word too. */
    static int[] of(VotedFrames x, int nodes) {
        int[] row = new int[3 + (nodes + 2) * (5 + 2 * (nodes + 2) + 6) + 6];
        int at = 0;
        row[at++] = x.frame();
        row[at++] = x.spread();
        row[at++] = x.alike() ? 1 : 0;
        for (int i = -1; i <= nodes; i++) {
            row[at++] = x.reading(i);
            row[at++] = x.correction(i);
            row[at++] = x.bears(i);
            row[at++] = x.members(i);
            row[at++] = x.accused(i);
            for (int s = -1; s <= nodes; s++) {
                row[at++] = x.input(i, s);
                row[at++] = x.charge(i, s);
            }
            for (int t = -1; t <= 4; t++) {
                row[at++] = x.word(i, t);
            }
        }
        for (int t = -1; t <= 4; t++) {
            row[at++] = x.solo(t);
        }
        return row;
    }
}
