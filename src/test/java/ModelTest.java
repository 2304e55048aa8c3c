import java.util.ArrayList;
import java.util.List;

/** Long runs of calls chosen by a fixed row of numbers, each answer beside the model's; and every network, whole. */
public final class ModelTest {
    private static final int RUNS = 300, CALLS = 512;
    private static final int[] EXTREMES = {Integer.MIN_VALUE, Integer.MAX_VALUE, -10000, 10000, -9999, 9999, -2, -1};

    private static final Checks CHECKS = new Checks("ModelTest");
    private static long seed = 1;

    private QuaternionNet net = new QuaternionNet();
    private Model model = new Model();
    private int run, call;

    private static int random(int below) {
        seed = seed * 6364136223846793005L + 1442695040888963407L;
        return (int) ((seed >>> 33) % below);
    }

    /** A number from 0 on below a bound, now and then a little or far outside. */
    private static int near(int below) {
        int kind = random(24);
        if (kind == 0) return EXTREMES[random(EXTREMES.length)];
        if (kind == 1) return below + random(3);
        return below > 0 ? random(below) : 0;
    }

    private static int somePart() {
        int kind = random(12);
        if (kind == 0) return EXTREMES[random(EXTREMES.length)];
        if (kind < 3) return random(400) - 200;
        return random(11) - 5;
    }

    private void same(String name, long got, long want, int... given) {
        StringBuilder told = new StringBuilder("run " + run + ", call " + call + ": " + name + "(");
        for (int i = 0; i < given.length; i++) told.append(i > 0 ? ", " : "").append(given[i]);
        CHECKS.due(told.append(")").toString(), got, want);
        call++;
    }

    private int steps() {
        return (int) model.count(2);
    }

    private int nodes() {
        return (int) model.count(3);
    }

    // ---- runs

    private void runOf(int kind) {
        run = kind;
        int[] primes = {5, 13, 17, 29};
        int[] moduli = {3, 5, 7};
        int p = primes[kind % 4], q = moduli[kind / 4 % 3];
        same("modulus", net.modulus(q), model.modulus(q), q);
        same("prime", net.prime(p), model.prime(p), p);
        while (call < CALLS - 200) {
            switch (random(13)) {
                case 0: case 1: numbers(); break;
                case 2: case 3: network(); break;
                case 4: counts(); break;
                case 5: waysAndWalks(); break;
                case 6: takingApart(); break;
                case 7: case 8: rowsOfSteps(); break;
                case 9: book(); break;
                case 10: text(); break;
                case 11: rowsAndImage(); break;
                default: looks();
            }
        }
        for (int i = 0; i <= 10; i++) same("count", net.count(i), model.count(i), i);
    }

    private void numbers() {
        int r = near(6), s = near(6), t = near(6);
        int[] x = {somePart(), somePart(), somePart(), somePart()};
        same("put", net.put(r, x[0], x[1], x[2], x[3]), model.put(r, x[0], x[1], x[2], x[3]), r, x[0], x[1], x[2], x[3]);
        switch (random(4)) {
            case 0: same("times", net.times(r, s, t), model.times(r, s, t), r, s, t); break;
            case 1: {
                int sign = near(2);
                same("sum", net.sum(r, s, t, sign), model.sum(r, s, t, sign), r, s, t, sign);
                break;
            }
            case 2: same("flip", net.flip(r), model.flip(r), r); break;
            default: same("nodeOf", net.nodeOf(r), model.nodeOf(r), r);
        }
        for (int i = 0; i < 4; i++) same("part", net.part(r, i), model.part(r, i), r, i);
        same("norm", net.norm(r), model.norm(r), r);
    }

    private void network() {
        int node = near(nodes()), other = near(nodes()), step = near(steps()), i = near(5);
        same("step", net.step(step, i), model.step(step, i), step, i);
        same("node", net.node(node, i), model.node(node, i), node, i);
        same("to", net.to(node, step), model.to(node, step), node, step);
        same("far", net.far(node, other), model.far(node, other), node, other);
        same("way", net.way(node, i - 1), model.way(node, i - 1), node, i - 1);
        if (random(8) == 0) same("image", net.image(), model.image());
        if (random(8) == 0) same("restore", net.restore(), model.restore());
        if (random(8) == 0) {
            int p = new int[] {5, 13, 17, 29, 7, 0, -5}[random(7)];
            same("prime", net.prime(p), model.prime(p), p);
        }
        if (random(8) == 0) {
            int q = new int[] {3, 5, 7, 2, 0, 9, -3}[random(7)];
            same("modulus", net.modulus(q), model.modulus(q), q);
        }
    }

    private void counts() {
        int n = near(13), bare = near(2), k = near(8) - 1, few = near(5);
        same("walks", net.walks(n, bare), model.walks(n, bare), n, bare);
        same("bound", net.bound(n), model.bound(n), n);
        same("counted", net.counted(few), model.counted(few), few);
        same("many", net.many(k), model.many(k), k);
        same("ring", net.ring(), model.ring());
    }

    private void waysAndWalks() {
        int goes = random(20), comes = random(20);
        for (int i = 0; i < goes; i++) {
            int step = near(steps());
            same("walk", net.walk(step), model.walk(step), step);
        }
        for (int i = 0; i < comes; i++) same("back", net.back(), model.back());
    }

    private void takingApart() {
        int r = random(6);
        List<Integer> x = List.of(random(2) * 2 - 1, 0, 0, 0);
        for (int n = random(13); n > 0; n--) {
            int s = random(steps());
            List<Integer> step = new ArrayList<>();
            for (int i = 0; i < 4; i++) step.add((int) model.step(s, i));
            List<Integer> next = Model.product(x, step);
            if (!Model.fits(next) || Model.multiple(next, (int) model.count(0)) && random(8) > 0) break;
            x = next;
        }
        if (random(10) == 0) x = List.of(x.get(0), x.get(1), x.get(3), x.get(2));
        int a = x.get(0), b = x.get(1), c = x.get(2), d = x.get(3);
        same("put", net.put(r, a, b, c, d), model.put(r, a, b, c, d), r, a, b, c, d);
        for (int i = -2; i <= 12; i++) same("apart", net.apart(r, i), model.apart(r, i), r, i);
        int other = near(6);
        same("apart", net.apart(other, 0), model.apart(other, 0), other, 0);
    }

    private void rowsOfSteps() {
        int row = near(3), r = near(6);
        if (random(3) == 0) {
            int node = near(nodes());
            same("film", net.film(row, node), model.film(row, node), row, node);
        } else {
            int n = random(3) == 0 ? near(41) : random(8);
            same("row", net.row(row, n), model.row(row, n), row, n);
            for (int i = 0; i < n && i < 12; i++) {
                int v = random(40) == 0 ? near(steps()) : random(steps());
                same("set", net.set(row, i, v), model.set(row, i, v), row, i, v);
            }
        }
        same("ends", net.ends(row), model.ends(row), row);
        same("meets", net.meets(row), model.meets(row), row);
        same("product", net.product(r, row), model.product(r, row), r, row);
        for (int i = 0; i < 4; i++) same("part", net.part(r, i), model.part(r, i), r, i);
    }

    private void book() {
        for (int k = random(12); k > 0; k--) {
            int r = near(6);
            if (random(3) > 0) {
                int a = random(4);
                same("put", net.put(r, a, 0, 0, random(2) == 0 ? 1 : 1), model.put(r, a, 0, 0, 1), r, a, 0, 0, 1);
            }
            if (random(4) > 0) {
                same("note", net.note(r), model.note(r), r);
            } else {
                same("strike", net.strike(r), model.strike(r), r);
            }
        }
        for (int k = 0; k < 4; k++) {
            int i = near(8), what = near(5);
            same("book", net.book(i, what), model.book(i, what), i, what);
        }
    }

    private void text() {
        String text = random(20) == 0 ? noise() : sum(0);
        if (random(3) == 0 && text.length() > 0) text = spoiled(text);
        if (text.length() > 90) text = text.substring(0, 90);
        for (char letter : text.toCharArray()) same("feed", net.feed(letter), model.feed(letter), letter);
        if (random(30) == 0) {
            int letter = new int[] {31, 127, 10, 0, -1, 400}[random(6)];
            same("feed", net.feed(letter), model.feed(letter), letter);
        }
        if (random(30) == 0) same("wipe", net.wipe(), model.wipe());
        int r = near(6);
        same("read", net.read(r), model.read(r), r);
        for (int i = 0; i < 4; i++) same("part", net.part(r, i), model.part(r, i), r, i);
        for (int i = 0; i < 6; i++) {
            same("why", net.why(i, 0), model.why(i, 0), i, 0);
            same("why", net.why(i, 1), model.why(i, 1), i, 1);
        }
    }

    private void rowsAndImage() {
        int row = near(3), i = near(10), n = near(42) - 2, v = near(1000);
        if (random(3) == 0) same("row", net.row(row, n), model.row(row, n), row, n);
        same("set", net.set(row, i, v), model.set(row, i, v), row, i, v);
        same("get", net.get(row, i), model.get(row, i), row, i);
        if (random(3) == 0) same("image", net.image(), model.image());
        if (random(6) == 0) same("restore", net.restore(), model.restore());
    }

    private void looks() {
        int what = near(10);
        same("count", net.count(what), model.count(what), what);
        for (int k = 0; k < 4; k++) {
            int r = near(6), i = near(4), row = near(3), at = near(12);
            same("part", net.part(r, i), model.part(r, i), r, i);
            same("get", net.get(row, at), model.get(row, at), row, at);
        }
    }

    // ---- texts

    private static String sum(int depth) {
        StringBuilder text = new StringBuilder(term(depth));
        for (int k = random(3); k > 0; k--) text.append(random(2) == 0 ? '+' : '-').append(term(depth));
        return text.toString();
    }

    private static String term(int depth) {
        StringBuilder text = new StringBuilder(factor(depth));
        for (int k = random(3) - 1; k > 0; k--) text.append('*').append(factor(depth));
        return text.toString();
    }

    private static String factor(int depth) {
        int kind = random(10);
        if (kind == 0) return "~" + factor(depth);
        if (kind < 4 && depth < 5) return "(" + sum(depth + (random(2) == 0 ? 1 : 2)) + ")";
        if (kind < 6) return "r" + random(6);
        if (kind < 8) return "g" + (random(6) > 0 ? random(6) : random(100)) ;
        return "[" + number() + "," + number() + "," + number() + "," + number() + "]";
    }

    private static String number() {
        String number = "" + (random(5) == 0 ? random(10000) : random(4));
        if (random(8) == 0 && number.length() < 4) number = "0" + number;
        return random(4) == 0 ? "-" + number : number;
    }

    private static String spoiled(String text) {
        int at = random(text.length());
        char letter = "()[],~rg+-*0123456789 x".charAt(random(23));
        switch (random(4)) {
            case 0: return text.substring(0, at);
            case 1: return text.substring(0, at) + letter + text.substring(at);
            case 2: return text.substring(0, at) + letter + text.substring(at + 1);
            default: return text.substring(0, at) + text.substring(at + 1);
        }
    }

    private static String noise() {
        StringBuilder text = new StringBuilder();
        for (int k = random(90); k > 0; k--) text.append((char) (32 + random(95)));
        return text.toString();
    }

    // ---- every network

    private static void wholeNetwork(int p, int q) {
        ModelTest both = new ModelTest();
        both.run = -(p * 10 + q);
        both.begin(p, q);
        for (int what = -1; what <= 10; what++) both.same("count", both.net.count(what), both.model.count(what), what);
        both.wholeSteps();
        both.wholeCounts();
        int nodes = both.nodes();
        for (int node = -1; node <= nodes; node++) {
            both.begin(p, q);
            both.wholeNode(node);
        }
    }

    /** With new ones, since an object is used for at most 512 calls. */
    private void begin(int p, int q) {
        net = new QuaternionNet();
        model = new Model();
        call = 0;
        int other = q == 5 ? 3 : q;
        same("modulus", net.modulus(other), model.modulus(other), other);
        same("prime", net.prime(p), model.prime(p), p);
        same("modulus", net.modulus(q), model.modulus(q), q);
    }

    private void wholeSteps() {
        for (int s = -1; s <= steps(); s++) {
            for (int i = -1; i <= 5; i++) same("step", net.step(s, i), model.step(s, i), s, i);
        }
    }

    private void wholeNode(int node) {
        for (int i = -1; i <= 5; i++) same("node", net.node(node, i), model.node(node, i), node, i);
        for (int s = -1; s <= steps(); s++) same("to", net.to(node, s), model.to(node, s), node, s);
        for (int other = -1; other <= nodes(); other++) {
            same("far", net.far(node, other), model.far(node, other), node, other);
        }
        for (int i = -2; i <= 8; i++) same("way", net.way(node, i), model.way(node, i), node, i);
    }

    private void wholeCounts() {
        for (int n = -1; n <= 14; n++) {
            for (int bare = -1; bare <= 2; bare++) same("walks", net.walks(n, bare), model.walks(n, bare), n, bare);
            same("bound", net.bound(n), model.bound(n), n);
            same("counted", net.counted(n), model.counted(n), n);
            same("many", net.many(n - 2), model.many(n - 2), n - 2);
        }
        same("ring", net.ring(), model.ring());
    }

    public static void main(String[] args) {
        for (int p : new int[] {5, 13, 17, 29}) {
            for (int q : new int[] {3, 5, 7}) {
                if (p != q) wholeNetwork(p, q);
            }
        }
        for (int kind = 0; kind < RUNS; kind++) new ModelTest().runOf(kind);
        CHECKS.end();
    }
}
