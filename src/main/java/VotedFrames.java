/**
 * A computer of 4 to 7 nodes that vote, some of which may be faulty and say
 * different things to different nodes. Sets of nodes are ints in which bit k
 * stands for node k. Every row is made by a constructor and used again by all
 * calls: no method makes an object.
 */
public final class VotedFrames {
    public static final int SHORT = -1000000001;
    public static final int DEEP = -1000000002;
    public static final int ZERO = -1000000003;

    private static final int FEWEST_NODES = 4;
    private static final int MOST_NODES = 7;
    private static final int LEAST_DELTA = 1;
    private static final int GREATEST_DELTA = 200;
    private static final int WIDEST_OFFSET = 500;
    private static final int WIDEST_DRIFT = 2;
    private static final int LONGEST_DELAY = 20;
    private static final int WIDEST_ERROR = 3;
    private static final int WIDEST_FAULT = 5000;
    /** How far beyond DELTA clocks may be apart for a message, and for a reading that counts. */
    private static final int MESSAGE_SLACK = 20;
    private static final int READING_SLACK = 3;
    private static final int LONGEST_PERIOD = 8;
    private static final int MOST_FRAMES = 4;
    private static final int TASKS = 4;

    private static final int CORRECT = 0;
    private static final int SILENT = 1;
    private static final int FIXED = 2;
    private static final int TWO_FACED = 3;
    private static final int SPREADING = 4;
    private static final int AT_TIMES = 5;

    private static final int NUM = 0;
    private static final int IN = 1;
    private static final int WORD = 2;
    private static final int ADD = 3;
    private static final int SUB = 4;
    private static final int MUL = 5;
    private static final int DIV = 6;
    private static final int LESS = 7;
    private static final int SKIP = 8;
    private static final int COPY = 9;

    private final int nodeCount;
    private final int faultsBorne;
    private final int delta;
    private final Node[] nodes;
    private final Relay relay;
    private final Task[] tasks;
    private final StackMachine stackMachine;
    private final int[] singleWords;
    private final int[] noInputs;
    private final int[] results;
    private final int[] ballot;
    private int framesRun;

    public VotedFrames(int nodes, int faults, int delta) {
        this.nodeCount = clamp(nodes, FEWEST_NODES, MOST_NODES);
        int mostFaults = (this.nodeCount - 1) / 3;
        this.faultsBorne = within(faults, 0, mostFaults) ? faults : mostFaults;
        this.delta = clamp(delta, LEAST_DELTA, GREATEST_DELTA);
        Node[] madeNodes = madeNodes(this.nodeCount);
        this.nodes = madeNodes;
        this.relay = new Relay(madeNodes, this.faultsBorne);
        this.tasks = madeTasks();
        this.stackMachine = new StackMachine();
        this.singleWords = new int[TASKS];
        this.noInputs = new int[this.nodeCount];
        this.results = new int[this.nodeCount];
        this.ballot = new int[this.nodeCount];
    }

    public boolean clock(int i, int offset, int drift) {
        if (!isNode(i) || !isAtMost(offset, WIDEST_OFFSET) || !isAtMost(drift, WIDEST_DRIFT)) {
            return false;
        }
        nodes[i].time = offset;
        nodes[i].drift = drift;
        return true;
    }

    public boolean link(int j, int i, int delay, int error) {
        if (!isNode(j) || !isNode(i) || j == i) {
            return false;
        }
        if (!within(delay, 0, LONGEST_DELAY) || !isAtMost(error, WIDEST_ERROR)) {
            return false;
        }
        nodes[i].delayFrom[j] = delay;
        nodes[i].errorFrom[j] = error;
        return true;
    }

    public boolean sensor(int i, int v) {
        if (!isNode(i)) {
            return false;
        }
        nodes[i].sensed = v;
        return true;
    }

    public boolean fault(int i, int kind, int x) {
        if (!isNode(i) || !within(kind, CORRECT, AT_TIMES) || !isAtMost(x, WIDEST_FAULT)) {
            return false;
        }
        nodes[i].kind = kind;
        nodes[i].x = x;
        return true;
    }

    public boolean code(int t, int op, int x) {
        if (!isTask(t) || !within(op, NUM, COPY) || !fitsInstruction(op, x)) {
            return false;
        }
        return tasks[t].append(op, x);
    }

    public int clear(int t) {
        return isTask(t) ? tasks[t].empty() : -1;
    }

    public boolean due(int t, int period, int phase) {
        if (!isTask(t) || !within(period, 1, LONGEST_PERIOD) || !within(phase, 0, period - 1)) {
            return false;
        }
        tasks[t].period = period;
        tasks[t].phase = phase;
        return true;
    }

    public int run(int k) {
        if (!within(k, 1, MOST_FRAMES)) {
            return -1;
        }
        int struck = 0;
        for (int done = 0; done < k; done++) {
            struck += runFrame();
        }
        return struck;
    }

    public int frame() {
        return framesRun;
    }

    public int reading(int i) {
        return isNode(i) ? nodes[i].time : 0;
    }

    public int correction(int i) {
        return isNode(i) ? nodes[i].latestCorrection : 0;
    }

    public int input(int i, int s) {
        return isNode(i) && isNode(s) ? nodes[i].inputs[s] : 0;
    }

    public int charge(int i, int s) {
        return isNode(i) && isNode(s) ? nodes[i].charges[s] : 0;
    }

    public int word(int i, int t) {
        return isNode(i) && isTask(t) ? nodes[i].words[t] : 0;
    }

    public int members(int i) {
        return isNode(i) ? nodes[i].memberSet : 0;
    }

    public int bears(int i) {
        return isNode(i) ? nodes[i].bearable(faultsBorne) : 0;
    }

    public int accused(int i) {
        return isNode(i) ? nodes[i].accusedSet : 0;
    }

    public int spread() {
        int first = leastCorrect();
        if (first < 0) {
            return 0;
        }
        int least = nodes[first].time;
        int greatest = least;
        for (int i = first + 1; i < nodeCount; i++) {
            if (nodes[i].kind == CORRECT) {
                least = Math.min(least, nodes[i].time);
                greatest = Math.max(greatest, nodes[i].time);
            }
        }
        return greatest - least;
    }

    public boolean alike() {
        int first = leastCorrect();
        if (first < 0) {
            return true;
        }
        for (int i = first + 1; i < nodeCount; i++) {
            if (nodes[i].kind == CORRECT && !nodes[i].holdsTheSameAs(nodes[first])) {
                return false;
            }
        }
        return true;
    }

    public int solo(int t) {
        return isTask(t) ? singleWords[t] : 0;
    }

    private static Node[] madeNodes(int count) {
        Node[] made = new Node[count];
        for (int i = 0; i < count; i++) {
            made[i] = new Node(i, count);
        }
        return made;
    }

    private static Task[] madeTasks() {
        Task[] made = new Task[TASKS];
        for (int t = 0; t < TASKS; t++) {
            made[t] = new Task();
        }
        return made;
    }

    private int runFrame() {
        openLines();
        relay.beginFrame(framesRun);
        agreeOnSensors();
        runDueTasks();
        agreeOnAccused();
        int struck = strikeOut();
        correctClocks();
        framesRun++;
        return struck;
    }

    /** Clocks, kinds and members stay as they are until all messages of the frame are sent. */
    private void openLines() {
        for (int i = 0; i < nodeCount; i++) {
            int heard = 0;
            for (int j = 0; j < nodeCount; j++) {
                if (j != i && nodes[i].canHear(nodes[j], delta + MESSAGE_SLACK)) {
                    heard |= 1 << j;
                }
            }
            nodes[i].heardSet = heard;
        }
    }

    private void agreeOnSensors() {
        for (int s = 0; s < nodeCount; s++) {
            relay.spreadOut(s, nodes[s].sensed);
            for (int i = 0; i < nodeCount; i++) {
                nodes[i].inputs[s] = relay.agreedBy(i);
            }
            nodes[s].accusedSet = 0;
        }
    }

    private void runDueTasks() {
        int guide = leastCorrect();
        int[] singleInputs = guide < 0 ? noInputs : nodes[guide].inputs;
        for (int t = 0; t < TASKS; t++) {
            if (tasks[t].isDueIn(framesRun)) {
                runOnAllNodes(t);
                singleWords[t] = stackMachine.resultOf(tasks[t], singleInputs, singleWords);
            }
        }
    }

    private void runOnAllNodes(int t) {
        for (int i = 0; i < nodeCount; i++) {
            results[i] = stackMachine.resultOf(tasks[t], nodes[i].inputs, nodes[i].words);
        }
        for (int i = 0; i < nodeCount; i++) {
            vote(nodes[i], t);
        }
    }

    private void vote(Node voter, int t) {
        int size = fillBallot(voter);
        int place = majorityPlace(ballot, size, voter.memberCount());
        if (place < 0) {
            voter.words[t] = 0;
            return;
        }
        voter.words[t] = ballot[place];
        voter.accusedSet |= dissentersFrom(ballot[place], voter);
    }

    private int fillBallot(Node voter) {
        ballot[0] = results[voter.number];
        int size = 1;
        for (int j = 0; j < nodeCount; j++) {
            if (contains(voter.heardSet, j)) {
                ballot[size] = nodes[j].says(results[j], voter.number, framesRun);
                size++;
            }
        }
        return size;
    }

    /** Members that the voter does not hear dissent too. */
    private int dissentersFrom(int value, Node voter) {
        int dissenters = voter.memberSet & ~(1 << voter.number);
        for (int j = 0; j < nodeCount; j++) {
            if (contains(voter.heardSet, j)
                && nodes[j].says(results[j], voter.number, framesRun) == value) {
                dissenters &= ~(1 << j);
            }
        }
        return dissenters;
    }

    private void agreeOnAccused() {
        int allNodes = (1 << nodeCount) - 1;
        for (int s = 0; s < nodeCount; s++) {
            relay.spreadOut(s, nodes[s].accusedSet);
            for (int i = 0; i < nodeCount; i++) {
                nodes[i].charges[s] = relay.agreedBy(i) & allNodes;
            }
        }
    }

    private int strikeOut() {
        int struck = 0;
        for (int i = 0; i < nodeCount; i++) {
            int convicted = convictedBy(nodes[i]);
            nodes[i].memberSet &= ~convicted;
            struck += Integer.bitCount(convicted);
        }
        return struck;
    }

    private int convictedBy(Node judge) {
        int enough = judge.bearable(faultsBorne) + 1;
        int convicted = 0;
        for (int j = 0; j < nodeCount; j++) {
            if (j != judge.number && contains(judge.memberSet, j) && judge.accusersOf(j) >= enough) {
                convicted |= 1 << j;
            }
        }
        return convicted;
    }

    /** No clock may move before every node has read the others. */
    private void correctClocks() {
        for (int i = 0; i < nodeCount; i++) {
            nodes[i].latestCorrection = correctionFor(nodes[i]);
        }
        for (int i = 0; i < nodeCount; i++) {
            nodes[i].time += nodes[i].latestCorrection + nodes[i].drift;
        }
    }

    private int correctionFor(Node reader) {
        int sum = 0;
        for (int j = 0; j < nodeCount; j++) {
            if (j != reader.number && contains(reader.memberSet, j) && nodes[j].kind != SILENT) {
                int difference = reader.differenceTo(nodes[j]);
                sum += isAtMost(difference, delta + READING_SLACK) ? difference : 0;
            }
        }
        int count = reader.memberCount();
        return count == 0 ? 0 : Math.floorDiv(sum, count);
    }

    /** The CORRECT node with the least number, -1 if there is none. */
    private int leastCorrect() {
        for (int i = 0; i < nodeCount; i++) {
            if (nodes[i].kind == CORRECT) {
                return i;
            }
        }
        return -1;
    }

    private boolean isNode(int i) {
        return within(i, 0, nodeCount - 1);
    }

    private boolean fitsInstruction(int op, int x) {
        switch (op) {
            case IN:
                return isNode(x);
            case WORD:
                return within(x, 0, TASKS - 1);
            case SKIP:
                return within(x, 0, Task.MOST_INSTRUCTIONS - 1);
            default:
                return true;
        }
    }

    private static boolean isTask(int t) {
        return within(t, 0, TASKS - 1);
    }

    private static boolean within(int v, int least, int greatest) {
        return least <= v && v <= greatest;
    }

    /** Compares on both sides, because the absolute value of -2^31 is negative. */
    private static boolean isAtMost(int v, int bound) {
        return within(v, -bound, bound);
    }

    private static int clamp(int v, int least, int greatest) {
        return Math.max(least, Math.min(greatest, v));
    }

    private static boolean contains(int set, int k) {
        return (set >> k & 1) != 0;
    }

    /** A place of the value that fills more than half of so many seats, -1 if none does. */
    private static int majorityPlace(int[] list, int size, int seats) {
        for (int place = 0; place < size; place++) {
            int count = 0;
            for (int other = place; other < size; other++) {
                if (list[other] == list[place]) {
                    count++;
                }
            }
            if (2 * count > seats) {
                return place;
            }
        }
        return -1;
    }

    private static final class Node {
        final int number;
        final int[] delayFrom;
        final int[] errorFrom;
        final int[] inputs;
        final int[] charges;
        final int[] words = new int[TASKS];
        int time;
        int drift;
        int sensed;
        int kind = CORRECT;
        int x;
        int memberSet;
        int heardSet;
        int accusedSet;
        int latestCorrection;

        Node(int number, int nodeCount) {
            this.number = number;
            this.delayFrom = new int[nodeCount];
            this.errorFrom = new int[nodeCount];
            this.inputs = new int[nodeCount];
            this.charges = new int[nodeCount];
            this.memberSet = (1 << nodeCount) - 1;
        }

        int memberCount() {
            return Integer.bitCount(memberSet);
        }

        int bearable(int faults) {
            return Math.min(faults, (memberCount() - 1) / 3);
        }

        boolean canHear(Node sender, int window) {
            if (!contains(memberSet, sender.number) || sender.kind == SILENT) {
                return false;
            }
            return isAtMost(time - sender.time + delayFrom[sender.number], window);
        }

        int says(int v, int to, int frameNumber) {
            switch (kind) {
                case FIXED:
                    return x;
                case TWO_FACED:
                    return to % 2 != 0 ? v + x : v;
                case SPREADING:
                    return v + x * (to + 1);
                case AT_TIMES:
                    return frameNumber % 2 != 0 ? x : v;
                default:
                    return v;
            }
        }

        /** An AT TIMES node never lies about its clock, whatever the frame. */
        int shows(int to) {
            return kind == AT_TIMES ? time : says(time, to, 0);
        }

        int differenceTo(Node other) {
            return other.shows(number) + errorFrom[other.number] - time;
        }

        /** How many of its members, but for j, charge j. */
        int accusersOf(int j) {
            int count = 0;
            for (int k = 0; k < charges.length; k++) {
                if (k != j && contains(memberSet, k) && contains(charges[k], j)) {
                    count++;
                }
            }
            return count;
        }

        boolean holdsTheSameAs(Node other) {
            return memberSet == other.memberSet
                && sameRow(words, other.words) && sameRow(inputs, other.inputs);
        }

        private static boolean sameRow(int[] a, int[] b) {
            for (int k = 0; k < a.length && k < b.length; k++) {
                if (a[k] != b[k]) {
                    return false;
                }
            }
            return true;
        }
    }

    /**
     * The agreeing on one value at a time. Paths are the rows of a tree: row 0 is
     * the path of the source alone, and below each row stands one row for every
     * node that may follow.
     */
    private static final class Relay {
        private final Node[] nodes;
        private final int faults;
        private final int[] held;
        private final int[][] lists;
        private int source;
        private int value;
        private int frameNumber;
        private int rounds;

        Relay(Node[] nodes, int faults) {
            this.nodes = nodes;
            this.faults = faults;
            int rows = 1;
            for (int level = 0; level < faults; level++) {
                rows = rows * nodes.length + 1;
            }
            this.held = new int[rows * nodes.length];
            this.lists = new int[faults + 1][nodes.length];
        }

        /** Longer paths than the node that bears most looks at need not be filled. */
        void beginFrame(int f) {
            frameNumber = f;
            rounds = 0;
            for (int i = 0; i < nodes.length; i++) {
                rounds = Math.max(rounds, nodes[i].bearable(faults));
            }
        }

        void spreadOut(int s, int v) {
            source = s;
            value = v;
            send(s, v, 0, 1 << s, rounds);
        }

        int agreedBy(int i) {
            if (i == source) {
                return value;
            }
            Node node = nodes[i];
            if (!contains(node.memberSet, source)) {
                return 0;
            }
            return make(node, 0, 1 << source, node.bearable(faults));
        }

        private int follow(int row, int j) {
            return row * nodes.length + 1 + j;
        }

        private int placeOf(int row, int i) {
            return row * nodes.length + i;
        }

        private int got(int sender, int v, int i) {
            return contains(nodes[i].heardSet, sender) ? nodes[sender].says(v, i, frameNumber) : 0;
        }

        /** The sender is the last node of the path; left tells how often it may still be followed. */
        private void send(int sender, int v, int row, int onPath, int left) {
            for (int i = 0; i < nodes.length; i++) {
                if (!contains(onPath, i)) {
                    held[placeOf(row, i)] = got(sender, v, i);
                }
            }
            if (left <= 0) {
                return;
            }
            for (int j = 0; j < nodes.length; j++) {
                if (!contains(onPath, j)) {
                    send(j, held[placeOf(row, j)], follow(row, j), onPath | 1 << j, left - 1);
                }
            }
        }

        private int make(Node node, int row, int onPath, int left) {
            int own = held[placeOf(row, node.number)];
            if (left <= 0) {
                return own;
            }
            int[] list = lists[left];
            list[0] = own;
            int size = 1;
            int relayers = node.memberSet & ~onPath & ~(1 << node.number);
            for (int j = 0; j < nodes.length; j++) {
                if (contains(relayers, j)) {
                    list[size] = make(node, follow(row, j), onPath | 1 << j, left - 1);
                    size++;
                }
            }
            int place = majorityPlace(list, size, size);
            return place < 0 ? 0 : list[place];
        }
    }

    private static final class Task {
        static final int MOST_INSTRUCTIONS = 12;

        final int[] ops = new int[MOST_INSTRUCTIONS];
        final int[] numbers = new int[MOST_INSTRUCTIONS];
        int length;
        /** 0 stands for none. */
        int period;
        int phase;

        boolean append(int op, int x) {
            if (length >= MOST_INSTRUCTIONS) {
                return false;
            }
            ops[length] = op;
            numbers[length] = x;
            length++;
            return true;
        }

        int empty() {
            int had = length;
            length = 0;
            period = 0;
            return had;
        }

        boolean isDueIn(int frameNumber) {
            return period > 0 && frameNumber % period == phase;
        }
    }

    private static final class StackMachine {
        private static final int MOST_INTS = 6;

        private final int[] stack = new int[MOST_INTS];
        private int depth;

        int resultOf(Task task, int[] inputs, int[] words) {
            depth = 0;
            int leftOut = 0;
            for (int at = 0; at < task.length; at++) {
                if (leftOut > 0) {
                    leftOut--;
                    continue;
                }
                int op = task.ops[at];
                int x = task.numbers[at];
                int refusal = refusalOf(op);
                if (refusal != 0) {
                    return refusal;
                }
                if (op == SKIP) {
                    leftOut = pop() == 0 ? x : 0;
                } else if (op >= ADD && op <= LESS) {
                    int b = pop();
                    int a = pop();
                    push(combine(op, a, b));
                } else {
                    push(fetch(op, x, inputs, words));
                }
            }
            return depth == 0 ? SHORT : stack[depth - 1];
        }

        /** The result that ends the program before this instruction, 0 if none does. */
        private int refusalOf(int op) {
            if (depth < needs(op)) {
                return SHORT;
            }
            if (op == DIV && stack[depth - 1] == 0) {
                return ZERO;
            }
            boolean grows = op <= WORD || op == COPY;
            return grows && depth >= MOST_INTS ? DEEP : 0;
        }

        private static int needs(int op) {
            if (op >= ADD && op <= LESS) {
                return 2;
            }
            return op == SKIP || op == COPY ? 1 : 0;
        }

        private int fetch(int op, int x, int[] inputs, int[] words) {
            switch (op) {
                case IN:
                    return inputs[x];
                case WORD:
                    return words[x];
                case COPY:
                    return stack[depth - 1];
                default:
                    return x;
            }
        }

        private static int combine(int op, int a, int b) {
            switch (op) {
                case ADD:
                    return a + b;
                case SUB:
                    return a - b;
                case MUL:
                    return a * b;
                case DIV:
                    return b == 0 ? ZERO : Math.floorDiv(a, b);
                default:
                    return a < b ? 1 : 0;
            }
        }

        private void push(int v) {
            stack[depth] = v;
            depth++;
        }

        private int pop() {
            depth--;
            return stack[depth];
        }
    }
}
