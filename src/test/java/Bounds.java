import java.util.ArrayList;
import java.util.Arrays;
import java.util.HashMap;
import java.util.List;
import java.util.Map;

/** What the tests of the document's bounds have in common. No object is used for more than 512 calls. */
abstract class Bounds {
    static final int BAD = -1, NOT = -2, FULL = -3, STATE = -5, LEAST = Integer.MIN_VALUE, MOST = Integer.MAX_VALUE;
    static final long VOID = Long.MIN_VALUE;
    static final int[] PRIMES = {5, 13, 17, 29}, MODULI = {3, 5, 7};
    static final int[] NO_REGISTERS = {-1, 6, LEAST, MOST}, NO_ROWS = {-1, 3, LEAST, MOST};

    private static final Map<Integer, int[][]> TABLES = new HashMap<>();

    final Sentences doc;

    Bounds(Sentences doc) {
        this.doc = doc;
    }

    abstract void all();

    final void due(String call, long got, long want) {
        doc.due(call, got, want);
    }

    // ---- objects made ready

    static QuaternionNet of(int p, int q) {
        QuaternionNet x = new QuaternionNet();
        if (q != 5) x.modulus(q);
        x.prime(p);
        x.modulus(q);
        return x;
    }

    /** Every p with every q that may stand beside it. */
    static List<int[]> networks() {
        List<int[]> all = new ArrayList<>();
        for (int p : PRIMES) {
            for (int q : MODULI) if (p != q) all.add(new int[] {p, q});
        }
        return all;
    }

    static QuaternionNet with(int r, int a, int b, int c, int d) {
        QuaternionNet x = new QuaternionNet();
        x.put(r, a, b, c, d);
        return x;
    }

    static void lay(QuaternionNet x, int row, int... steps) {
        x.row(row, steps.length);
        for (int i = 0; i < steps.length; i++) x.set(row, i, steps[i]);
    }

    static void feed(QuaternionNet x, String text) {
        for (char letter : text.toCharArray()) x.feed(letter);
    }

    // ---- what is due of them

    final void isRegister(QuaternionNet x, int r, long a, long b, long c, long d) {
        long[] want = {a, b, c, d};
        for (int i = 0; i < 4; i++) due("part(" + r + ", " + i + ")", x.part(r, i), want[i]);
    }

    final void isRow(QuaternionNet x, int row, int... want) {
        for (int i = 0; i < want.length; i++) due("get(" + row + ", " + i + ")", x.get(row, i), want[i]);
        due("get behind the row's end", x.get(row, want.length), VOID);
    }

    // ---- the network as to() tells it

    /** Where each step leads from each node. */
    static int[][] table(int p, int q) {
        return TABLES.computeIfAbsent(p * 10 + q, key -> askedTable(p, q));
    }

    private static int[][] askedTable(int p, int q) {
        QuaternionNet x = of(p, q);
        int[][] to = new int[x.count(3)][x.count(2)];
        for (int n = 0; n < to.length; n++) {
            if (n % 10 == 0) x = of(p, q);
            for (int s = 0; s < to[n].length; s++) to[n][s] = x.to(n, s);
        }
        return to;
    }

    static int[] reverses(int p) {
        QuaternionNet x = of(p, 3);
        int[] reverses = new int[p + 1];
        for (int s = 0; s <= p; s++) reverses[s] = (int) x.step(s, 4);
        return reverses;
    }

    /** By how few steps one comes from a node to each. */
    static int[] distances(int[][] to, int from) {
        int[] far = new int[to.length];
        Arrays.fill(far, -1);
        far[from] = 0;
        List<Integer> open = new ArrayList<>(List.of(from));
        for (int i = 0; i < open.size(); i++) {
            for (int next : to[open.get(i)]) {
                if (far[next] >= 0) continue;
                far[next] = far[open.get(i)] + 1;
                open.add(next);
            }
        }
        return far;
    }

    static int leads(int[][] to, int from, int... steps) {
        int at = from;
        for (int s : steps) at = to[at][s];
        return at;
    }

    // ---- quaternions of the tests' own

    static int[] product(int[] x, int[] y) {
        return new int[] {x[0] * y[0] - x[1] * y[1] - x[2] * y[2] - x[3] * y[3],
            x[0] * y[1] + x[1] * y[0] + x[2] * y[3] - x[3] * y[2],
            x[0] * y[2] - x[1] * y[3] + x[2] * y[0] + x[3] * y[1],
            x[0] * y[3] + x[1] * y[2] - x[2] * y[1] + x[3] * y[0]};
    }

    static int norm(int... x) {
        return x[0] * x[0] + x[1] * x[1] + x[2] * x[2] + x[3] * x[3];
    }

    static boolean right(int... x) {
        return x[0] % 2 != 0 && x[1] % 2 == 0 && x[2] % 2 == 0 && x[3] % 2 == 0;
    }

    static int[] stepParts(QuaternionNet x, int s) {
        return new int[] {(int) x.step(s, 0), (int) x.step(s, 1), (int) x.step(s, 2), (int) x.step(s, 3)};
    }
}
