import java.util.ArrayList;
import java.util.HashSet;
import java.util.List;
import java.util.Set;

/** Steps, classes, nodes, how far, sides: promises 8 to 15. */
final class NetworkBounds extends Bounds {
    NetworkBounds(Sentences doc) {
        super(doc);
    }

    @Override
    void all() {
        doc.term("NORM p is one of 5, 13, 17, 29 (5 at first), MODULUS q one of 3, 5, 7 (3 at first), never the same as p.",
            this::whichNumbersMayBe);
        doc.term("STEPS: all RIGHT QUATERNIONS of NORM p with a above 0, numbered from 0 on by a, of like ones by b, then c, "
            + "then d (the least first): p and 1 of them.", this::stepsInTheirOrder);
        doc.term("REVERSE of a STEP: the one that is its CONJUGATE.", this::reversesOfAll);
        doc.term("CLASS of a QUATERNION of which NORM is no multiple of q: its PARTS modulo q (0 .. q - 1), all multiplied by "
            + "that number 1 .. q - 1 (modulo q) by which the first PART that is not 0 becomes 1.", this::classes);
        doc.term("THE NETWORK: NODE 0 is the CLASS of 1, 0, 0, 0.", this::nodeNought);
        doc.term("From a NODE by a STEP one comes to the CLASS of the product of the NODE's PARTS and the STEP.",
            this::whereStepsLead);
        doc.term("NODES are numbered as they come first: from NODE 0, 1, .. in turn, by STEPS 0, 1, ..; all that can be come "
            + "to so are NODES.", this::nodesAsTheyCome);
        doc.term("FAR of two NODES: by how few STEPS one comes from the one to the other.", this::farOfAll);
        doc.term("SIDES: if NODES fall to two sides so that each STEP leads from one to the other: the SIDE of NODE 0 is 0, "
            + "the other 1; NOT.", this::sidesOfAll);
        doc.term("\"By\" of NODES: one STEP.", this::byOneStep);
        doc.term("Two numbers in a bracket with \"and\" are their sum.", this::pAndOneSteps);
        doc.term("How many are FAR as no NODE is: 0.", this::asFarAsNone);

        doc.promise(8, "NORM p becomes another one: what it was.", this::primes);
        doc.promise(8, "BAD; STATE: it is q.", this::noPrime);
        doc.promise(9, "MODULUS q becomes another one: what it was.", this::moduli);
        doc.promise(9, "BAD; STATE: it is p.", this::noModulus);
        doc.promise(10, "PART i (0 .. 3) of a STEP, or its REVERSE (i 4).", this::firstAndLastStep);
        doc.promise(10, "VOID: BAD.", this::noStep);
        doc.promise(11, "PART i (0 .. 3) of a NODE, or its SIDE (i 4; -2: NOT).", this::firstAndLastNode);
        doc.promise(11, "BAD.", this::noNode);
        doc.promise(12, "The NODE that is the CLASS of a REGISTER.", this::nodesOfRegisters);
        doc.promise(12, "BAD; STATE: it has no CLASS; NOT: that is no NODE.", this::registersOfNoNode);
        doc.promise(13, "The NODE to which one comes from a NODE by a STEP.", this::fromTheLastNode);
        doc.promise(13, "BAD.", this::fromNoNode);
        doc.promise(14, "FAR of two NODES.", this::farAtTheEnds);
        doc.promise(14, "BAD.", this::farOfNone);
        doc.promise(15, "How many NODES are k FAR from NODE 0 (k -1: the greatest FAR there is).", this::howManyAndTheGreatest);
        doc.promise(15, "BAD: k below -1.", this::manyBelow);
    }

    private static boolean isOneOf(int x, int... some) {
        for (int one : some) if (one == x) return true;
        return false;
    }

    // ---- p and q

    private void whichNumbersMayBe() {
        due("p at first", new QuaternionNet().count(0), 5);
        due("q at first", new QuaternionNet().count(1), 3);
        for (int p = -30; p <= 60; p++) {
            due("prime(" + p + ")", new QuaternionNet().prime(p), isOneOf(p, PRIMES) ? 5 : BAD);
        }
        for (int q = -10; q <= 30; q++) {
            due("modulus(" + q + ")", of(13, 7).modulus(q), isOneOf(q, MODULI) ? 7 : BAD);
        }
        for (int[] pq : networks()) {
            QuaternionNet x = of(pq[0], pq[1]);
            due("p", x.count(0), pq[0]);
            due("q", x.count(1), pq[1]);
        }
        due("both 5", of(13, 5).prime(5), STATE);
        due("both 5", new QuaternionNet().modulus(5), STATE);
    }

    private void primes() {
        QuaternionNet x = new QuaternionNet();
        int[] row = {29, 5, 17, 13, 13, 29, 29, 17};
        int was = 5;
        for (int p : row) {
            due("prime(" + p + ")", x.prime(p), was);
            due("p", x.count(0), p);
            due("q stays", x.count(1), 3);
            due("STEPS", x.count(2), p + 1);
            was = p;
        }
    }

    private void noPrime() {
        for (int p : new int[] {0, 1, 2, 3, 4, 6, 7, 12, 14, 16, 18, 28, 30, -5, -29, 5 + (1 << 8), 13 + (1 << 16), LEAST, MOST}) {
            QuaternionNet x = of(17, 5);
            due("prime(" + p + ")", x.prime(p), BAD);
            due("p stays", x.count(0), 17);
        }
        QuaternionNet x = of(17, 5);
        due("it is q", x.prime(5), STATE);
        due("p stays", x.count(0), 17);
        due("STEPS stay", x.count(2), 18);
        due("3 and 7 are no p at all", x.prime(3), BAD);
        due("3 is q and no p", of(5, 3).prime(3), BAD);
    }

    private void moduli() {
        QuaternionNet x = of(13, 3);
        int[] row = {7, 3, 5, 5, 7, 7, 5, 3}, nodes = {336, 12, 120, 120, 336, 336, 120, 12};
        int was = 3;
        for (int i = 0; i < row.length; i++) {
            due("modulus(" + row[i] + ")", x.modulus(row[i]), was);
            due("q", x.count(1), row[i]);
            due("p stays", x.count(0), 13);
            due("NODES", x.count(3), nodes[i]);
            was = row[i];
        }
    }

    private void noModulus() {
        for (int q : new int[] {0, 1, 2, 4, 6, 8, 9, 11, 13, -3, -7, 3 + (1 << 8), 7 + (1 << 16), LEAST, MOST}) {
            QuaternionNet x = of(5, 7);
            due("modulus(" + q + ")", x.modulus(q), BAD);
            due("q stays", x.count(1), 7);
        }
        QuaternionNet x = of(5, 7);
        due("it is p", x.modulus(5), STATE);
        due("q stays", x.count(1), 7);
        due("NODES stay", x.count(3), 336);
        due("13 is p and no q", of(13, 3).modulus(13), BAD);
    }

    // ---- steps

    private static List<int[]> allSteps(int p) {
        List<int[]> steps = new ArrayList<>();
        for (int a = 1; a <= 6; a++) {
            for (int b = -6; b <= 6; b++) {
                for (int c = -6; c <= 6; c++) {
                    for (int d = -6; d <= 6; d++) {
                        if (norm(a, b, c, d) == p && right(a, b, c, d)) steps.add(new int[] {a, b, c, d});
                    }
                }
            }
        }
        return steps;
    }

    private void stepsInTheirOrder() {
        for (int p : PRIMES) {
            List<int[]> want = allSteps(p);
            QuaternionNet x = of(p, 3);
            due("how many there can be", want.size(), p + 1);
            due("how many", x.count(2), p + 1);
            for (int s = 0; s <= p; s++) {
                for (int i = 0; i < 4; i++) due("p " + p + ", step(" + s + ", " + i + ")", x.step(s, i), want.get(s)[i]);
            }
        }
    }

    private void reversesOfAll() {
        for (int p : PRIMES) {
            QuaternionNet x = of(p, 3);
            for (int s = 0; s <= p; s++) {
                int[] step = stepParts(x, s), reverse = stepParts(x, (int) x.step(s, 4));
                due("a", reverse[0], step[0]);
                for (int i = 1; i < 4; i++) due("part " + i, reverse[i], -step[i]);
            }
        }
    }

    private void pAndOneSteps() {
        for (int p : PRIMES) due("STEPS of p " + p, of(p, 3).count(2), p + 1);
        // (p and 1) to the n in BOUND: 24 times 6 less twice 36 is 72, of which the root is 8
        due("bound(2)", of(5, 3).bound(2), 8);
    }

    private void firstAndLastStep() {
        QuaternionNet x = of(29, 3);
        int[] first = {3, -4, -2, 0, 23}, last = {5, 2, 0, 0, 24};
        for (int i = 0; i <= 4; i++) due("step(0, " + i + ")", x.step(0, i), first[i]);
        for (int i = 0; i <= 4; i++) due("step(29, " + i + ")", x.step(29, i), last[i]);
    }

    private void noStep() {
        for (int p : PRIMES) {
            QuaternionNet x = of(p, 3);
            for (int s : new int[] {-1, p + 1, LEAST, MOST}) {
                for (int i = 0; i <= 4; i++) due("step(" + s + ", " + i + ")", x.step(s, i), VOID);
            }
            for (int i : new int[] {-1, 5, LEAST, MOST}) {
                due("first, i " + i, x.step(0, i), VOID);
                due("last, i " + i, x.step(p, i), VOID);
            }
        }
    }

    // ---- classes and nodes

    private static int[] classOf(int q, int... x) {
        int[] parts = new int[4];
        for (int k = 1; k < q; k++) {
            int first = 0;
            for (int i = 0; i < 4; i++) {
                parts[i] = Math.floorMod(x[i] * k, q);
                if (first == 0) first = parts[i];
            }
            if (first == 1) break;
        }
        return parts;
    }

    private void isNodeOf(QuaternionNet x, int node, int... want) {
        for (int i = 0; i < 4; i++) due("node(" + node + ", " + i + ")", x.node(node, i), want[i]);
    }

    private void classes() {
        int[][] some = {{2, 0, 0, 0}, {-1, 0, 0, 0}, {9998, 0, 0, 0}, {-9998, 9997, 0, 9999}, {0, 2, 0, 0}, {0, -1, 3, 0},
            {0, 0, 0, -1}, {0, 0, 0, 9998}, {0, 0, -2, 9999}, {105, 2, 0, 0}, {-105, 210, 4, 0}, {6, 5, 4, 3}, {-1, -2, -3, -4}};
        for (int q : new int[] {3, 7}) {
            for (int[] s : some) {
                if (norm(s) % q == 0) continue;
                QuaternionNet x = of(5, q);
                x.put(0, s[0], s[1], s[2], s[3]);
                int node = x.nodeOf(0);
                isNodeOf(x, node, classOf(q, s));
            }
        }
        QuaternionNet x = of(17, 5);
        x.put(0, 5, -5, 3, 4);
        due("NORM 75 is a multiple of 5", x.nodeOf(0), STATE);
        x.put(0, 5, -5, 2, 2);
        isNodeOf(x, x.nodeOf(0), 0, 0, 1, 1);
    }

    private void nodeNought() {
        for (int[] pq : networks()) isNodeOf(of(pq[0], pq[1]), 0, 1, 0, 0, 0);
    }

    private void whereStepsLead() {
        for (int[] pq : networks()) {
            int[][] to = table(pq[0], pq[1]);
            // the first and the last node by every step
            for (int node : new int[] {0, to.length - 1}) {
                QuaternionNet x = of(pq[0], pq[1]);
                int[] at = {x.node(node, 0), x.node(node, 1), x.node(node, 2), x.node(node, 3)};
                for (int s = 0; s < to[node].length; s++) {
                    isNodeOf(x, to[node][s], classOf(pq[1], product(at, stepParts(x, s))));
                }
            }
        }
    }

    private void nodesAsTheyCome() {
        for (int[] pq : networks()) {
            int[][] to = table(pq[0], pq[1]);
            int come = 1, wrong = 0;
            for (int n = 0; n < to.length; n++) {
                if (n >= come) wrong++;
                for (int next : to[n]) {
                    if (next < 0 || next > come) wrong++;
                    if (next == come) come++;
                }
            }
            due("come otherwise", wrong, 0);
            due("how many came", come, to.length);
            due("they are told apart", differentNodes(pq[0], pq[1]), to.length);
        }
    }

    private static int differentNodes(int p, int q) {
        Set<Integer> seen = new HashSet<>();
        QuaternionNet x = of(p, q);
        int size = x.count(3);
        for (int n = 0; n < size; n++) {
            if (n % 100 == 0) x = of(p, q);
            seen.add(x.node(n, 0) * 1000 + x.node(n, 1) * 100 + x.node(n, 2) * 10 + x.node(n, 3));
        }
        return seen.size();
    }

    private void firstAndLastNode() {
        int[][] last = {{5, 3, 0, 0, 1, 2, 1}, {5, 7, 0, 0, 1, 1, 0}};
        for (int[] w : last) {
            QuaternionNet x = of(w[0], w[1]);
            int node = x.count(3) - 1;
            isNodeOf(x, node, w[2], w[3], w[4], w[5]);
            due("its SIDE", x.node(node, 4), w[6]);
            due("SIDE of NODE 0", x.node(0, 4), 0);
        }
        for (int[] pq : new int[][] {{13, 3}, {29, 5}, {29, 7}}) {
            QuaternionNet x = of(pq[0], pq[1]);
            due("no SIDE", x.node(0, 4), -2);
            due("no SIDE", x.node(x.count(3) - 1, 4), -2);
        }
    }

    private void noNode() {
        for (int[] pq : networks()) {
            QuaternionNet x = of(pq[0], pq[1]);
            for (int n : new int[] {-1, x.count(3), LEAST, MOST}) {
                for (int i = 0; i <= 4; i++) due("node(" + n + ", " + i + ")", x.node(n, i), BAD);
            }
            for (int i : new int[] {-1, 5, LEAST, MOST}) {
                due("first, i " + i, x.node(0, i), BAD);
                due("last, i " + i, x.node(x.count(3) - 1, i), BAD);
            }
        }
    }

    private void nodesOfRegisters() {
        for (int[] pq : networks()) {
            QuaternionNet x = of(pq[0], pq[1]);
            int last = x.count(3) - 1;
            for (int node : new int[] {0, 1, last}) {
                // its parts times anything that is no multiple of q, with multiples of q put to them
                for (int k = 1 - pq[1]; k < pq[1]; k++) {
                    if (k == 0) continue;
                    int more = 9 * pq[1];
                    x.put(5, k * x.node(node, 0) + more, k * x.node(node, 1) - more, k * x.node(node, 2), k * x.node(node, 3));
                    due("k " + k, x.nodeOf(5), node);
                }
            }
        }
    }

    private void registersOfNoNode() {
        for (int r : NO_REGISTERS) due("register " + r, new QuaternionNet().nodeOf(r), BAD);
        int[][] noClass = {{3, 0, 0, 0, 0}, {3, 1, 1, 1, 0}, {3, 1, -1, 0, 1}, {3, 9999, 9999, 9999, 9999}, {3, 3, 0, -3, 0},
            {7, 0, 0, 0, 0}, {7, 1, 2, 1, 1}, {7, 7, 0, 0, 0}, {7, -1, -1, -2, 1}, {5, 1, 2, 0, 0}, {5, 0, 0, 9995, 5}};
        for (int[] w : noClass) {
            QuaternionNet x = of(13, w[0]);
            x.put(0, w[1], w[2], w[3], w[4]);
            due("no CLASS", x.nodeOf(0), STATE);
        }
        // 13, 29 and 29 are squares modulo 3, 5 and 7: only CLASSES of NORMS that are squares, too, can be come to
        int[][] noNode = {{13, 3, 1, 1, 0, 0}, {29, 5, 1, 1, 0, 0}, {29, 7, 1, 1, 1, 0}};
        for (int[] w : noNode) {
            QuaternionNet x = of(w[0], w[1]);
            x.put(0, w[2], w[3], w[4], w[5]);
            due("no NODE", x.nodeOf(0), NOT);
            x.put(0, -w[2], -w[3], -w[4], -w[5]);
            due("no NODE", x.nodeOf(0), NOT);
        }
    }

    private void fromTheLastNode() {
        due("by the first STEP", of(5, 3).to(23, 0), 15);
        due("by the last STEP", of(5, 3).to(23, 5), 12);
        due("from NODE 0 by the last STEP", of(5, 3).to(0, 5), 6);
        for (int[] pq : networks()) {
            int[][] to = table(pq[0], pq[1]);
            int[] reverses = reverses(pq[0]);
            int wrong = 0;
            for (int n = 0; n < to.length; n++) {
                for (int s = 0; s < to[n].length; s++) if (to[to[n][s]][reverses[s]] != n) wrong++;
            }
            due("not back by the REVERSE", wrong, 0);
        }
    }

    private void fromNoNode() {
        for (int[] pq : networks()) {
            QuaternionNet x = of(pq[0], pq[1]);
            for (int n : new int[] {-1, x.count(3), LEAST, MOST}) due("node " + n, x.to(n, 0), BAD);
            for (int s : new int[] {-1, x.count(2), LEAST, MOST}) due("step " + s, x.to(0, s), BAD);
        }
    }

    private void byOneStep() {
        for (int[] pq : networks()) {
            int[][] to = table(pq[0], pq[1]);
            QuaternionNet x = of(pq[0], pq[1]);
            for (int s = 0; s < to[0].length; s++) due("far(0, to(0, " + s + "))", x.far(0, to[0][s]), 1);
        }
    }

    // ---- how far

    private void farOfAll() {
        for (int[] pq : networks()) {
            int[][] to = table(pq[0], pq[1]);
            for (int one : new int[] {0, 1, to.length / 2, to.length - 1}) {
                int[] far = distances(to, one);
                QuaternionNet x = of(pq[0], pq[1]);
                for (int n = 0; n < to.length; n++) due("far(" + one + ", " + n + ")", x.far(one, n), far[n]);
            }
        }
    }

    private void farAtTheEnds() {
        QuaternionNet x = of(5, 7);
        due("from itself", x.far(0, 0), 0);
        due("the last from itself", x.far(335, 335), 0);
        due("the greatest", x.far(0, 335), 6);
        due("the greatest, from there", x.far(335, 0), 6);
    }

    private void farOfNone() {
        for (int[] pq : networks()) {
            QuaternionNet x = of(pq[0], pq[1]);
            for (int n : new int[] {-1, x.count(3), LEAST, MOST}) {
                due("one " + n, x.far(n, 0), BAD);
                due("other " + n, x.far(0, n), BAD);
                due("both " + n, x.far(n, n), BAD);
            }
        }
    }

    private static int[] howManyByFar(int[] far) {
        int[] many = new int[far.length + 1];
        for (int f : far) many[f]++;
        return many;
    }

    private void howManyAndTheGreatest() {
        for (int[] pq : networks()) {
            int[] many = howManyByFar(distances(table(pq[0], pq[1]), 0));
            QuaternionNet x = of(pq[0], pq[1]);
            int greatest = 0;
            while (many[greatest + 1] > 0) greatest++;
            for (int k = 0; k <= greatest + 1; k++) due("many(" + k + ")", x.many(k), many[k]);
            due("the greatest", x.many(-1), greatest);
        }
    }

    private void asFarAsNone() {
        for (int[] pq : networks()) {
            QuaternionNet x = of(pq[0], pq[1]);
            due("one more than the greatest", x.many(x.many(-1) + 1), 0);
            for (int k : new int[] {7, 30, 336, MOST - 1, MOST}) due("many(" + k + ")", x.many(k), 0);
        }
    }

    private void manyBelow() {
        for (int k : new int[] {-2, -3, LEAST, LEAST + 1}) due("many(" + k + ")", new QuaternionNet().many(k), BAD);
        due("-1 is none below", new QuaternionNet().many(-1), 3);
    }

    // ---- sides

    private void sidesOfAll() {
        int without = 0;
        for (int[] pq : networks()) {
            int[][] to = table(pq[0], pq[1]);
            int[] far = distances(to, 0);
            boolean are = true;
            for (int n = 0; n < to.length; n++) {
                for (int next : to[n]) if (far[n] % 2 == far[next] % 2) are = false;
            }
            if (!are) without++;
            QuaternionNet x = of(pq[0], pq[1]);
            due("whether there are any", x.count(9), are ? 1 : 0);
            for (int n = 0; n < to.length; n++) due("node(" + n + ", 4)", x.node(n, 4), are ? far[n] % 2 : NOT);
        }
        due("how many networks are without", without, 3);
    }
}
