import java.util.ArrayList;
import java.util.Arrays;
import java.util.HashSet;
import java.util.List;
import java.util.Set;

/**
 * The document once more, word for word and without regard to speed: sets are
 * sets, paths are lists, and what a node holds is asked for anew each time.
 */
final class Model {
    private final int n;
    private final int m;
    private final int delta;
    private final int[] clock;
    private final int[] drift;
    private final int[] sensor;
    private final int[] kind;
    private final int[] number;
    private final int[] correction;
    private final int[][] delay;
    private final int[][] error;
    private final int[][] words;
    private final int[][] inputs;
    private final int[][] charges;
    private final List<Set<Integer>> members = new ArrayList<>();
    private final List<Set<Integer>> accused = new ArrayList<>();
    private final List<List<int[]>> programs = new ArrayList<>();
    private final int[] period = new int[4];
    private final int[] phase = new int[4];
    private final int[] single = new int[4];
    private int f;

    Model(int nodes, int faults, int delta) {
        n = nodes < 4 ? 4 : nodes > 7 ? 7 : nodes;
        int greatest = 0;
        while (3 * (greatest + 1) < n) {
            greatest++;
        }
        m = 0 <= 3L * faults && 3L * faults < n ? faults : greatest;
        this.delta = delta < 1 ? 1 : delta > 200 ? 200 : delta;
        clock = new int[n];
        drift = new int[n];
        sensor = new int[n];
        kind = new int[n];
        number = new int[n];
        correction = new int[n];
        delay = new int[n][n];
        error = new int[n][n];
        words = new int[n][4];
        inputs = new int[n][n];
        charges = new int[n][n];
        for (int i = 0; i < n; i++) {
            Set<Integer> all = new HashSet<>();
            for (int j = 0; j < n; j++) {
                all.add(j);
            }
            members.add(all);
            accused.add(new HashSet<>());
        }
        for (int t = 0; t < 4; t++) {
            programs.add(new ArrayList<>());
        }
    }

    int nodes() {
        return n;
    }

    private boolean node(int i) {
        return i >= 0 && i < n;
    }

    private static boolean four(int t) {
        return t >= 0 && t < 4;
    }

    boolean clock(int i, int offset, int d) {
        boolean good = node(i) && offset >= -500 && offset <= 500 && d >= -2 && d <= 2;
        if (good) {
            clock[i] = offset;
            drift[i] = d;
        }
        return good;
    }

    boolean link(int j, int i, int d, int e) {
        boolean good = node(j) && node(i) && j != i && d >= 0 && d <= 20 && e >= -3 && e <= 3;
        if (good) {
            delay[j][i] = d;
            error[j][i] = e;
        }
        return good;
    }

    boolean sensor(int i, int v) {
        if (node(i)) {
            sensor[i] = v;
        }
        return node(i);
    }

    boolean fault(int i, int k, int x) {
        boolean good = node(i) && k >= 0 && k <= 5 && x >= -5000 && x <= 5000;
        if (good) {
            kind[i] = k;
            number[i] = x;
        }
        return good;
    }

    boolean code(int t, int op, int x) {
        boolean good = four(t) && op >= 0 && op <= 9 && programs.get(t).size() < 12;
        good = good && (op != 1 || node(x)) && (op != 2 || four(x)) && (op != 8 || x >= 0 && x <= 11);
        if (good) {
            programs.get(t).add(new int[] {op, x});
        }
        return good;
    }

    int clear(int t) {
        if (!four(t)) {
            return -1;
        }
        int had = programs.get(t).size();
        programs.get(t).clear();
        period[t] = 0;
        return had;
    }

    boolean due(int t, int p, int ph) {
        boolean good = four(t) && p >= 1 && p <= 8 && ph >= 0 && ph < p;
        if (good) {
            period[t] = p;
            phase[t] = ph;
        }
        return good;
    }

    int run(int k) {
        if (k < 1 || k > 4) {
            return -1;
        }
        int strikes = 0;
        for (int done = 0; done < k; done++) {
            partOne();
            partTwo();
            partThree();
            strikes += partFour();
            partFive();
            f++;
        }
        return strikes;
    }

    private boolean getsThrough(int j, int i) {
        long lag = (long) clock[i] - clock[j] + delay[j][i];
        return members.get(i).contains(j) && kind[j] != 1 && -(delta + 20) <= lag && lag <= delta + 20;
    }

    private int says(int j, int i, int v) {
        if (kind[j] == 2 || kind[j] == 5 && f % 2 == 1) {
            return number[j];
        }
        if (kind[j] == 3 && i % 2 == 1) {
            return v + number[j];
        }
        return kind[j] == 4 ? v + number[j] * (i + 1) : v;
    }

    private int shows(int j, int i) {
        if (kind[j] == 2) {
            return number[j];
        }
        if (kind[j] == 3 && i % 2 == 1) {
            return clock[j] + number[j];
        }
        return kind[j] == 4 ? clock[j] + number[j] * (i + 1) : clock[j];
    }

    private int holds(int i, List<Integer> path, int value) {
        int j = path.get(path.size() - 1);
        if (!getsThrough(j, i)) {
            return 0;
        }
        int sent = path.size() == 1 ? value : holds(j, path.subList(0, path.size() - 1), value);
        return says(j, i, sent);
    }

    private int makes(int i, List<Integer> path, int value) {
        if (path.size() == 1 + bears(i)) {
            return holds(i, path, value);
        }
        List<Integer> list = new ArrayList<>();
        list.add(holds(i, path, value));
        for (int j : members.get(i)) {
            if (j != i && !path.contains(j)) {
                List<Integer> longer = new ArrayList<>(path);
                longer.add(j);
                list.add(makes(i, longer, value));
            }
        }
        for (int v : list) {
            if (times(list, v) * 2 > list.size()) {
                return v;
            }
        }
        return 0;
    }

    private static int times(List<Integer> list, int v) {
        int count = 0;
        for (int w : list) {
            count += w == v ? 1 : 0;
        }
        return count;
    }

    private int agrees(int i, int s, int value) {
        if (i == s) {
            return value;
        }
        return members.get(i).contains(s) ? makes(i, List.of(s), value) : 0;
    }

    private void partOne() {
        for (int s = 0; s < n; s++) {
            for (int i = 0; i < n; i++) {
                inputs[i][s] = agrees(i, s, sensor[s]);
            }
        }
        for (int i = 0; i < n; i++) {
            accused.get(i).clear();
        }
    }

    private void partTwo() {
        int[] guide = new int[n];
        for (int i = n - 1; i >= 0; i--) {
            guide = kind[i] == 0 ? inputs[i] : guide;
        }
        for (int t = 0; t < 4; t++) {
            if (period[t] == 0 || f % period[t] != phase[t]) {
                continue;
            }
            int[] results = new int[n];
            for (int i = 0; i < n; i++) {
                results[i] = result(programs.get(t), inputs[i], words[i]);
            }
            for (int i = 0; i < n; i++) {
                vote(i, t, results);
            }
            single[t] = result(programs.get(t), guide, single);
        }
    }

    private void vote(int i, int t, int[] results) {
        List<Integer> list = new ArrayList<>();
        list.add(results[i]);
        for (int j = 0; j < n; j++) {
            if (j != i && getsThrough(j, i)) {
                list.add(says(j, i, results[j]));
            }
        }
        words[i][t] = 0;
        for (int v : list) {
            if (times(list, v) * 2 > members.get(i).size()) {
                words[i][t] = v;
                for (int j : members.get(i)) {
                    if (j != i && (!getsThrough(j, i) || says(j, i, results[j]) != v)) {
                        accused.get(i).add(j);
                    }
                }
            }
        }
    }

    private static int result(List<int[]> program, int[] in, int[] word) {
        List<Integer> stack = new ArrayList<>();
        int at = 0;
        while (at < program.size()) {
            int op = program.get(at)[0];
            int x = program.get(at)[1];
            at++;
            int needed = op >= 3 && op <= 7 ? 2 : op >= 8 ? 1 : 0;
            if (stack.size() < needed) {
                return -1000000001;
            }
            int b = stack.isEmpty() ? 0 : stack.get(stack.size() - 1);
            int a = stack.size() < 2 ? 0 : stack.get(stack.size() - 2);
            if (op == 6 && b == 0) {
                return -1000000003;
            }
            int taken = op == 9 ? 0 : needed;
            for (int k = 0; k < taken; k++) {
                stack.remove(stack.size() - 1);
            }
            if (op == 8) {
                at += b == 0 ? x : 0;
                continue;
            }
            if (stack.size() == 6) {
                return -1000000002;
            }
            stack.add(put(op, x, a, b, in, word));
        }
        return stack.isEmpty() ? -1000000001 : stack.get(stack.size() - 1);
    }

    private static int put(int op, int x, int a, int b, int[] in, int[] word) {
        switch (op) {
            case 0: return x;
            case 1: return in[x];
            case 2: return word[x];
            case 3: return (int) ((long) a + b);
            case 4: return (int) ((long) a - b);
            case 5: return (int) ((long) a * b);
            case 6: return (int) roundedDown(a, b);
            case 7: return a < b ? 1 : 0;
            default: return b;
        }
    }

    private static long roundedDown(long a, long b) {
        long quotient = a / b;
        return quotient * b != a && a < 0 != b < 0 ? quotient - 1 : quotient;
    }

    private static int bits(Set<Integer> set) {
        int bits = 0;
        for (int k : set) {
            bits |= 1 << k;
        }
        return bits;
    }

    private void partThree() {
        for (int s = 0; s < n; s++) {
            for (int i = 0; i < n; i++) {
                charges[i][s] = agrees(i, s, bits(accused.get(s))) & (1 << n) - 1;
            }
        }
    }

    private int partFour() {
        int strikes = 0;
        for (int i = 0; i < n; i++) {
            Set<Integer> out = new HashSet<>();
            for (int j : members.get(i)) {
                int against = 0;
                for (int k : members.get(i)) {
                    against += k != j && (charges[i][k] & 1 << j) != 0 ? 1 : 0;
                }
                if (j != i && against > bears(i)) {
                    out.add(j);
                }
            }
            members.get(i).removeAll(out);
            strikes += out.size();
        }
        return strikes;
    }

    private void partFive() {
        int[] before = clock.clone();
        for (int i = 0; i < n; i++) {
            long sum = 0;
            for (int j : members.get(i)) {
                if (j != i && kind[j] != 1) {
                    long difference = (long) shows(j, i) + error[j][i] - clock[i];
                    sum += Math.abs(difference) <= delta + 3 ? difference : 0;
                }
            }
            correction[i] = (int) roundedDown(sum, members.get(i).size());
            before[i] += correction[i] + drift[i];
        }
        System.arraycopy(before, 0, clock, 0, n);
    }

    int bears(int i) {
        return node(i) ? Math.min(m, (members.get(i).size() - 1) / 3) : 0;
    }

    int spread() {
        int greatest = 0;
        for (int i = 0; i < n; i++) {
            for (int j = 0; j < n; j++) {
                if (kind[i] == 0 && kind[j] == 0) {
                    greatest = Math.max(greatest, clock[i] - clock[j]);
                }
            }
        }
        return greatest;
    }

    boolean alike() {
        boolean same = true;
        for (int i = 0; i < n; i++) {
            for (int j = 0; j < n; j++) {
                if (kind[i] == 0 && kind[j] == 0) {
                    same = same && Arrays.equals(words[i], words[j]) && Arrays.equals(inputs[i], inputs[j])
                        && members.get(i).equals(members.get(j));
                }
            }
        }
        return same;
    }

    /** All that can be asked, with the nodes and words from -1 to one behind the last. */
    int[] answers() {
        List<Integer> all = new ArrayList<>(List.of(f, spread(), alike() ? 1 : 0));
        for (int i = -1; i <= n; i++) {
            boolean good = node(i);
            all.addAll(List.of(good ? clock[i] : 0, good ? correction[i] : 0, bears(i)));
            all.addAll(List.of(good ? bits(members.get(i)) : 0, good ? bits(accused.get(i)) : 0));
            for (int s = -1; s <= n; s++) {
                all.add(good && node(s) ? inputs[i][s] : 0);
                all.add(good && node(s) ? charges[i][s] : 0);
            }
            for (int t = -1; t <= 4; t++) {
                all.add(good && four(t) ? words[i][t] : 0);
            }
        }
        for (int t = -1; t <= 4; t++) {
            all.add(four(t) ? single[t] : 0);
        }
        int[] row = new int[all.size()];
        for (int k = 0; k < row.length; k++) {
            row[k] = all.get(k);
        }
        return row;
    }
}
