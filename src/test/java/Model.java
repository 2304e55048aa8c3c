import java.math.BigInteger;
import java.util.ArrayDeque;
import java.util.ArrayList;
import java.util.Arrays;
import java.util.HashMap;
import java.util.List;
import java.util.Map;

/**
 * The document once more, as slowly and as plainly as it can be said, and by other ways than the class goes wherever
 * there is another way. Only the tests use it.
 */
final class Model {
    static final int BAD = -1, NOT = -2, FULL = -3, STATE = -5;
    static final long VOID = Long.MIN_VALUE;

    /** Everything of the network of one p and q; made once for each. */
    static final class Net {
        final int p, q;
        final List<List<Integer>> steps = new ArrayList<>();
        final List<List<Integer>> nodes = new ArrayList<>();
        final List<int[]> to = new ArrayList<>();
        final int[][] far;
        final int[] side;
        final long[][] walks;

        Net(int p, int q) {
            this.p = p;
            this.q = q;
            makeSteps();
            makeNodes();
            far = new int[nodes.size()][];
            for (int i = 0; i < far.length; i++) far[i] = distancesFrom(i);
            side = colours();
            walks = new long[][] {closedWalks(), closedBareWalks()};
        }

        private void makeSteps() {
            for (int a = 1; a <= 29; a++) {
                for (int b = -29; b <= 29; b++) {
                    for (int c = -29; c <= 29; c++) {
                        for (int d = -29; d <= 29; d++) {
                            List<Integer> x = List.of(a, b, c, d);
                            if (norm(x) == p && right(x)) steps.add(x);
                        }
                    }
                }
            }
        }

        List<Integer> classOf(List<Integer> x) {
            for (int k = 1; k < q; k++) {
                List<Integer> scaled = new ArrayList<>();
                for (int part : x) scaled.add(Math.floorMod(part * k, q));
                int i = 0;
                while (i < 4 && scaled.get(i) == 0) i++;
                if (i < 4 && scaled.get(i) == 1) return scaled;
            }
            throw new IllegalStateException("no class of " + x);
        }

        private void makeNodes() {
            Map<List<Integer>, Integer> numbers = new HashMap<>();
            nodes.add(List.of(1, 0, 0, 0));
            numbers.put(nodes.get(0), 0);
            for (int i = 0; i < nodes.size(); i++) {
                int[] row = new int[steps.size()];
                for (int s = 0; s < row.length; s++) {
                    List<Integer> x = classOf(product(nodes.get(i), steps.get(s)));
                    if (!numbers.containsKey(x)) {
                        numbers.put(x, nodes.size());
                        nodes.add(x);
                    }
                    row[s] = numbers.get(x);
                }
                to.add(row);
            }
        }

        private int[] distancesFrom(int one) {
            int[] far = new int[nodes.size()];
            Arrays.fill(far, -1);
            far[one] = 0;
            ArrayDeque<Integer> open = new ArrayDeque<>(List.of(one));
            while (!open.isEmpty()) {
                int at = open.remove();
                for (int next : to.get(at)) {
                    if (far[next] < 0) {
                        far[next] = far[at] + 1;
                        open.add(next);
                    }
                }
            }
            return far;
        }

        /** The sides, or null. */
        private int[] colours() {
            int[] side = new int[nodes.size()];
            Arrays.fill(side, -1);
            side[0] = 0;
            ArrayDeque<Integer> open = new ArrayDeque<>(List.of(0));
            while (!open.isEmpty()) {
                int at = open.pop();
                for (int next : to.get(at)) {
                    if (side[next] == side[at]) return null;
                    if (side[next] < 0) {
                        side[next] = 1 - side[at];
                        open.push(next);
                    }
                }
            }
            return side;
        }

        private long[] closedWalks() {
            long[] counts = new long[13];
            long[] now = new long[nodes.size()];
            now[0] = 1;
            for (int n = 0; n <= 12; n++) {
                counts[n] = now[0];
                long[] next = new long[now.length];
                for (int i = 0; i < now.length; i++) {
                    for (int j : to.get(i)) next[i] = next[i] + now[j]; // from behind: those that go on from j to node 0
                }
                now = next;
            }
            return counts;
        }

        /** By the node and the latest step, so that nothing needs to be taken off again. */
        private long[] closedBareWalks() {
            int k = steps.size();
            int[] reverse = new int[k];
            for (int s = 0; s < k; s++) reverse[s] = steps.indexOf(conjugate(steps.get(s)));
            long[] counts = new long[13];
            counts[0] = 1;
            long[][] now = new long[nodes.size()][k];
            for (int s = 0; s < k; s++) now[to.get(0)[s]][s]++;
            for (int n = 1; n <= 12; n++) {
                for (int s = 0; s < k; s++) counts[n] += now[0][s];
                long[][] next = new long[nodes.size()][k];
                for (int i = 0; i < next.length; i++) {
                    for (int s = 0; s < k; s++) {
                        if (now[i][s] == 0) continue;
                        for (int t = 0; t < k; t++) {
                            if (t != reverse[s]) next[to.get(i)[t]][t] += now[i][s];
                        }
                    }
                }
                now = next;
            }
            return counts;
        }

        List<Integer> way(int node) {
            List<Integer> way = new ArrayList<>();
            int at = 0;
            while (at != node) {
                int s = 0;
                while (far[to.get(at)[s]][node] != far[at][node] - 1) s++;
                way.add(s);
                at = to.get(at)[s];
            }
            return way;
        }

        /** Takes the last step off first. */
        List<Integer> apart(List<Integer> x) {
            int n = 0;
            long power = 1;
            while (power < norm(x) && n < 12) {
                power *= p;
                n++;
            }
            if (power != norm(x) || !right(x) || multiple(x, p)) return null;
            List<Integer> row = new ArrayList<>();
            List<Integer> rest = x;
            while (norm(rest) > 1) {
                int found = -1;
                for (int s = 0; s < steps.size(); s++) {
                    if (multiple(product(rest, conjugate(steps.get(s))), p)) {
                        if (found >= 0) throw new IllegalStateException("two last steps of " + rest);
                        found = s;
                    }
                }
                row.add(0, found);
                List<Integer> shorter = new ArrayList<>();
                for (int part : product(rest, conjugate(steps.get(found)))) shorter.add(part / p);
                rest = shorter;
            }
            List<Integer> all = List.of(1, 0, 0, 0);
            for (int s : row) all = product(all, steps.get(s));
            List<Integer> turned = new ArrayList<>();
            for (int part : all) turned.add(-part);
            if (row.size() != n || !(all.equals(x) || turned.equals(x))) throw new IllegalStateException("apart " + x);
            return row;
        }

        int counted(int n) {
            int norm = (int) Math.pow(p, n);
            int found = 0;
            for (int b = -32; b <= 32; b++) {
                for (int c = -32; c <= 32; c++) {
                    for (int d = -32; d <= 32; d++) {
                        if (b % q != 0 || c % q != 0 || d % q != 0) continue;
                        int a = (int) Math.round(Math.sqrt(Math.max(0, norm - b * b - c * c - d * d)));
                        List<Integer> x = List.of(a, b, c, d);
                        if (a > 0 && norm(x) == norm && right(x)) found++;
                    }
                }
            }
            return found;
        }

        long bound(int n) {
            BigInteger most = BigInteger.valueOf(Long.MAX_VALUE);
            BigInteger all = BigInteger.valueOf(walks[0][n]).multiply(BigInteger.valueOf(nodes.size()));
            BigInteger power = BigInteger.valueOf(p + 1).pow(n);
            BigInteger less = side == null ? power : power.add(power);
            BigInteger rest = all.subtract(less);
            if (all.compareTo(most) > 0 || power.compareTo(most) > 0 || less.compareTo(most) > 0) return VOID;
            if (rest.signum() < 0) throw new IllegalStateException("bound " + n);
            long r = 0;
            while (BigInteger.valueOf(r + 1).pow(n).compareTo(rest) <= 0) r++;
            return r;
        }
    }

    static final Map<Integer, Net> NETS = new HashMap<>();

    static Net net(int p, int q) {
        return NETS.computeIfAbsent(p * 10 + q, key -> new Net(p, q));
    }

    static List<Integer> product(List<Integer> x, List<Integer> y) {
        int a = x.get(0), b = x.get(1), c = x.get(2), d = x.get(3);
        int e = y.get(0), f = y.get(1), g = y.get(2), h = y.get(3);
        return List.of(a * e - b * f - c * g - d * h, a * f + b * e + c * h - d * g,
            a * g - b * h + c * e + d * f, a * h + b * g - c * f + d * e);
    }

    static List<Integer> conjugate(List<Integer> x) {
        return List.of(x.get(0), -x.get(1), -x.get(2), -x.get(3));
    }

    static long norm(List<Integer> x) {
        long all = 0;
        for (int part : x) all += (long) part * part;
        return all;
    }

    static boolean right(List<Integer> x) {
        return x.get(0) % 2 != 0 && x.get(1) % 2 == 0 && x.get(2) % 2 == 0 && x.get(3) % 2 == 0;
    }

    static boolean multiple(List<Integer> x, int of) {
        for (int part : x) if (part % of != 0) return false;
        return true;
    }

    static boolean fits(List<Integer> x) {
        for (int part : x) if (part < -9999 || part > 9999) return false;
        return true;
    }

    // ---- the state

    private Net net = net(5, 3);
    private int place;
    private List<List<Integer>> registers = new ArrayList<>();
    private List<List<Integer>> book = new ArrayList<>();
    private List<Integer> often = new ArrayList<>();
    private List<Integer> deeds = new ArrayList<>();
    private final List<List<Integer>> rows = new ArrayList<>(Arrays.asList(null, null, null));
    private String tape = "";
    private List<int[]> why = new ArrayList<>();
    private Object[] image;

    Model() {
        for (int i = 0; i < 6; i++) registers.add(List.of(0, 0, 0, 0));
    }

    private static boolean reg(int r) {
        return r >= 0 && r <= 5;
    }

    long put(int r, int a, int b, int c, int d) {
        if (!reg(r)) return BAD;
        for (long part : new long[] {a, b, c, d}) if (Math.abs(part) > 9999) return BAD;
        registers.set(r, List.of(a, b, c, d));
        return 1;
    }

    long part(int r, int i) {
        return reg(r) && i >= 0 && i < 4 ? registers.get(r).get(i) : VOID;
    }

    long norm(int r) {
        return reg(r) ? norm(registers.get(r)) : VOID;
    }

    private long lay(int r, List<Integer> x) {
        if (!fits(x)) return STATE;
        registers.set(r, x);
        return 1;
    }

    long times(int r, int s, int t) {
        if (!reg(r) || !reg(s) || !reg(t)) return BAD;
        return lay(r, product(registers.get(s), registers.get(t)));
    }

    private static List<Integer> together(List<Integer> x, List<Integer> y, boolean less) {
        List<Integer> all = new ArrayList<>();
        for (int i = 0; i < 4; i++) all.add(less ? x.get(i) - y.get(i) : x.get(i) + y.get(i));
        return all;
    }

    long sum(int r, int s, int t, int sign) {
        if (!reg(r) || !reg(s) || !reg(t) || sign < 0 || sign > 1) return BAD;
        return lay(r, together(registers.get(s), registers.get(t), sign == 1));
    }

    long flip(int r) {
        if (!reg(r)) return BAD;
        registers.set(r, conjugate(registers.get(r)));
        return right(registers.get(r)) ? 1 : 0;
    }

    private void anew(int p, int q) {
        if (p == net.p && q == net.q) return;
        net = net(p, q);
        place = 0;
        deeds.clear();
    }

    long prime(int p) {
        if (!List.of(5, 13, 17, 29).contains(p)) return BAD;
        if (p == net.q) return STATE;
        int was = net.p;
        anew(p, net.q);
        return was;
    }

    long modulus(int q) {
        if (!List.of(3, 5, 7).contains(q)) return BAD;
        if (q == net.p) return STATE;
        int was = net.q;
        anew(net.p, q);
        return was;
    }

    private boolean isStep(int s) {
        return s >= 0 && s < net.steps.size();
    }

    private boolean isNode(int n) {
        return n >= 0 && n < net.nodes.size();
    }

    long step(int step, int i) {
        if (!isStep(step) || i < 0 || i > 4) return VOID;
        return i == 4 ? net.steps.indexOf(conjugate(net.steps.get(step))) : net.steps.get(step).get(i);
    }

    long node(int node, int i) {
        if (!isNode(node) || i < 0 || i > 4) return BAD;
        if (i == 4) return net.side == null ? NOT : net.side[node];
        return net.nodes.get(node).get(i);
    }

    long nodeOf(int r) {
        if (!reg(r)) return BAD;
        if (norm(registers.get(r)) % net.q == 0) return STATE;
        int node = net.nodes.indexOf(net.classOf(registers.get(r)));
        return node < 0 ? NOT : node;
    }

    long to(int node, int step) {
        return isNode(node) && isStep(step) ? net.to.get(node)[step] : BAD;
    }

    long far(int one, int other) {
        return isNode(one) && isNode(other) ? net.far[one][other] : BAD;
    }

    long many(int k) {
        if (k < -1) return BAD;
        long found = 0, most = 0;
        for (int far : net.far[0]) {
            if (far == k) found++;
            most = Math.max(most, far);
        }
        return k == -1 ? most : found;
    }

    long ring() {
        for (int n = 1; n <= 12; n++) if (net.walks[1][n] != 0) return n;
        return NOT;
    }

    long walks(int n, int bare) {
        return n < 0 || n > 12 || bare < 0 || bare > 1 ? VOID : net.walks[bare][n];
    }

    long counted(int n) {
        if (n < 0 || n > 4) return BAD;
        return Math.pow(net.p, n) > 1000 ? STATE : net.counted(n);
    }

    long bound(int n) {
        return List.of(2, 4, 6, 8, 10, 12).contains(n) ? net.bound(n) : VOID;
    }

    private static long ofRow(List<Integer> row, int i) {
        if (i == -1) return row.size();
        return i < row.size() ? row.get(i) : NOT;
    }

    long way(int node, int i) {
        return !isNode(node) || i < -1 ? BAD : ofRow(net.way(node), i);
    }

    long apart(int r, int i) {
        if (!reg(r) || i < -1) return BAD;
        List<Integer> row = net.apart(registers.get(r));
        return row == null ? STATE : ofRow(row, i);
    }

    long walk(int step) {
        if (!isStep(step)) return BAD;
        deeds.add(place);
        if (deeds.size() > 16) deeds.remove(0);
        place = net.to.get(place)[step];
        return place;
    }

    long back() {
        if (deeds.isEmpty()) return STATE;
        place = deeds.remove(deeds.size() - 1);
        return place;
    }

    private int rowTrouble(int row) {
        if (row < 0 || row > 2) return BAD;
        if (rows.get(row) == null) return -11;
        for (int s : rows.get(row)) if (!isStep(s)) return BAD;
        return 0;
    }

    private List<Integer> trail(int row) {
        List<Integer> trail = new ArrayList<>(List.of(place));
        for (int s : rows.get(row)) trail.add(net.to.get(trail.get(trail.size() - 1))[s]);
        return trail;
    }

    long ends(int row) {
        if (rowTrouble(row) != 0) return rowTrouble(row);
        List<Integer> trail = trail(row);
        return trail.get(trail.size() - 1);
    }

    long meets(int row) {
        if (rowTrouble(row) != 0) return rowTrouble(row);
        List<Integer> trail = trail(row);
        for (int i = 1; i < trail.size(); i++) if (trail.indexOf(trail.get(i)) < i) return i - 1;
        return NOT;
    }

    long product(int r, int row) {
        if (!reg(r)) return BAD;
        if (rowTrouble(row) != 0) return rowTrouble(row);
        List<Integer> x = List.of(1, 0, 0, 0);
        for (int s : rows.get(row)) {
            x = product(x, net.steps.get(s));
            if (!fits(x)) return STATE;
        }
        registers.set(r, x);
        return rows.get(row).size();
    }

    long film(int row, int node) {
        if (row < 0 || row > 2 || !isNode(node)) return BAD;
        rows.set(row, net.way(node));
        return rows.get(row).size();
    }

    long note(int r) {
        if (!reg(r)) return BAD;
        int i = book.indexOf(registers.get(r));
        if (i < 0) {
            if (book.size() == 7) return FULL;
            book.add(registers.get(r));
            often.add(1);
            return 1;
        }
        often.set(i, often.get(i) + 1);
        return often.get(i);
    }

    long book(int i, int what) {
        if (i < 0 || i >= book.size() || what < 0 || what > 4) return VOID;
        return what == 4 ? often.get(i) : book.get(i).get(what);
    }

    long strike(int r) {
        if (!reg(r)) return BAD;
        int i = book.indexOf(registers.get(r));
        if (i < 0) return NOT;
        book.remove(i);
        return often.remove(i);
    }

    long feed(int letter) {
        if (letter < 32 || letter > 126) return BAD;
        if (tape.length() == 80) return FULL;
        tape = tape + (char) letter;
        return tape.length();
    }

    long wipe() {
        int had = tape.length();
        tape = "";
        return had;
    }

    long read(int r) {
        if (!reg(r)) return BAD;
        String text = tape;
        tape = "";
        int fault = ModelText.fault(text);
        if (fault >= 0) {
            why = ModelText.groupsOpenAt(text, fault);
            why.add(new int[] {1, fault});
            return -100 - fault;
        }
        try {
            registers.set(r, new ModelText(text, registers, net.steps).value());
            return 1;
        } catch (ModelText.Trouble trouble) {
            why = ModelText.groupsOpenAt(text, trouble.place);
            why.add(new int[] {trouble.sort, trouble.number});
            return trouble.sort == 3 ? STATE : NOT;
        }
    }

    long why(int i, int what) {
        if (i < 0 || what < 0 || what > 1) return BAD;
        return i < why.size() ? why.get(i)[what] : NOT;
    }

    long row(int row, int n) {
        if (row < 0 || row > 2 || n > 40) return BAD;
        if (n < -1) return -14;
        List<Integer> made = null;
        if (n >= 0) {
            made = new ArrayList<>();
            for (int i = 0; i < n; i++) made.add(0);
        }
        rows.set(row, made);
        return 1;
    }

    long set(int row, int i, int v) {
        if (row < 0 || row > 2) return BAD;
        if (rows.get(row) == null) return -11;
        if (i < 0 || i >= rows.get(row).size()) return -13;
        List<Integer> changed = new ArrayList<>(rows.get(row));
        changed.set(i, v);
        rows.set(row, changed);
        return 1;
    }

    long get(int row, int i) {
        if (row < 0 || row > 2 || rows.get(row) == null || i < 0 || i >= rows.get(row).size()) return VOID;
        return rows.get(row).get(i);
    }

    long image() {
        image = new Object[] {net, place, new ArrayList<>(registers), new ArrayList<>(book), new ArrayList<>(often)};
        return place;
    }

    @SuppressWarnings("unchecked")
    long restore() {
        if (image == null) return STATE;
        net = (Net) image[0];
        place = (Integer) image[1];
        registers = new ArrayList<>((List<List<Integer>>) image[2]);
        book = new ArrayList<>((List<List<Integer>>) image[3]);
        often = new ArrayList<>((List<Integer>) image[4]);
        deeds.clear();
        return place;
    }

    long count(int what) {
        switch (what) {
            case 0: return net.p;
            case 1: return net.q;
            case 2: return net.steps.size();
            case 3: return net.nodes.size();
            case 4: return place;
            case 5: return deeds.size();
            case 6: return book.size();
            case 7: return tape.length();
            case 8: return why.size();
            case 9: return net.side == null ? 0 : 1;
            default: return BAD;
        }
    }
}
