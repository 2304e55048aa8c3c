import java.math.BigInteger;

/** Walks counted, rings, numbers counted another way, what bounds: promises 16 to 19. */
final class CountBounds extends Bounds {
    CountBounds(Sentences doc) {
        super(doc);
    }

    @Override
    void all() {
        doc.term("A WALK of n STEPS (0 .. 12): any row of n STEPS, from NODE 0; it is BARE, if none of its STEPS comes right "
            + "behind its REVERSE.", this::walksCountedByBehindWhich);
        doc.term("CLOSED: it ends at NODE 0.", this::closedAtNodeNought);
        doc.term("RING: the least n of 1 .. 12 for which there is a CLOSED BARE one; NOT.", this::ringsOfAll);
        doc.term("COUNTED n (0 .. 4; p to the n no more than 1000): how many RIGHT QUATERNIONS of NORM p to the n with a above "
            + "0 have b, c, d that are multiples of q.", this::countedOfAll);
        doc.term("BOUND of n (2, 4, .. 12): the greatest whole r, 0 or more, so that r to the n is no more than (how many "
            + "NODES there are times how many CLOSED WALKS of n STEPS there are, less (p and 1) to the n, that twice, if there "
            + "are SIDES); VOID, if one of these is beyond a long.", this::boundsOfAll);
        doc.term("Several STEPS may lead from a NODE to the same one; each counts as its own in WALKS.", this::eachStepItsOwn);
        doc.term("A STEP may be its own REVERSE in THE NETWORK, never as a QUATERNION (REVERSE is told of STEPS).",
            this::ownReverseInTheNetwork);
        doc.term("COUNTED with n 0: 1.", this::countedOfNought);
        doc.term("Of no STEPS there is one row, and it is CLOSED;", this::walksOfNoSteps);
        doc.term("Of numbers that are not as told VOID.", this::numbersNotAsTold);

        doc.promise(16, "RING.", this::ringOfTheFirst);
        doc.promise(16, "NOT.", this::noRingIsMissing);
        doc.promise(17, "How many CLOSED WALKS of n STEPS there are (bare 0), CLOSED BARE ones (1).", this::shortestAndLongestWalks);
        doc.promise(17, "VOID: BAD.", this::noWalks);
        doc.promise(18, "COUNTED.", this::countedAtTheEnds);
        doc.promise(18, "BAD: n; STATE: p to the n is above 1000.", this::notCounted);
        doc.promise(19, "BOUND.", this::boundsAtTheEnds);
        doc.promise(19, "VOID: BAD; as told.", this::noBound);
    }

    // ---- walks

    /** How many closed ones there are, told apart by the latest step; only bare ones, or all. */
    private static long[] closedOnes(int[][] to, int[] reverses, boolean bare) {
        int steps = reverses.length;
        long[] counts = new long[13];
        counts[0] = 1;
        long[][] now = new long[to.length][steps];
        for (int s = 0; s < steps; s++) now[to[0][s]][s]++;
        for (int n = 1; n <= 12; n++) {
            for (long some : now[0]) counts[n] += some;
            long[][] next = new long[to.length][steps];
            for (int at = 0; at < to.length; at++) {
                for (int s = 0; s < steps; s++) {
                    for (int t = 0; t < steps; t++) if (!bare || reverses[t] != s) next[to[at][t]][t] += now[at][s];
                }
            }
            now = next;
        }
        return counts;
    }

    private void walksCountedByBehindWhich() {
        for (int[] pq : networks()) {
            int[][] to = table(pq[0], pq[1]);
            int[] reverses = reverses(pq[0]);
            long[] all = closedOnes(to, reverses, false), bare = closedOnes(to, reverses, true);
            QuaternionNet x = of(pq[0], pq[1]);
            for (int n = 0; n <= 12; n++) {
                due("walks(" + n + ", 0)", x.walks(n, 0), all[n]);
                due("walks(" + n + ", 1)", x.walks(n, 1), bare[n]);
            }
        }
    }

    /** Goes every row of so many steps: how many end at node 0. */
    private static int gone(int[][] to, int at, int steps) {
        if (steps == 0) return at == 0 ? 1 : 0;
        int found = 0;
        for (int next : to[at]) found += gone(to, next, steps - 1);
        return found;
    }

    private void closedAtNodeNought() {
        int[][] some = {{5, 3, 6}, {13, 3, 4}, {29, 5, 3}, {5, 7, 6}};
        for (int[] s : some) {
            int[][] to = table(s[0], s[1]);
            QuaternionNet x = of(s[0], s[1]);
            // it is NODE 0 from where they go, not PLACE
            x.walk(0);
            for (int n = 0; n <= s[2]; n++) due("walks(" + n + ", 0)", x.walks(n, 0), gone(to, 0, n));
        }
    }

    private void walksOfNoSteps() {
        for (int[] pq : networks()) {
            QuaternionNet x = of(pq[0], pq[1]);
            due("walks(0, 0)", x.walks(0, 0), 1);
            due("walks(0, 1)", x.walks(0, 1), 1);
            due("way(0, -1)", x.way(0, -1), 0);
        }
    }

    private void shortestAndLongestWalks() {
        due("one STEP", of(5, 3).walks(1, 0), 0);
        due("one STEP, bare", of(5, 3).walks(1, 1), 0);
        due("two STEPS", of(5, 3).walks(2, 0), 6);
        due("two STEPS, bare", of(5, 3).walks(2, 1), 0);
        due("three STEPS, bare", of(29, 7).walks(3, 1), 144);
        due("the most", of(29, 3).walks(12, 0), 44286751632586752L);
        due("twelve STEPS, bare", of(5, 3).walks(12, 1), 24430854L);
        due("eleven STEPS", of(5, 3).walks(11, 0), 0);
    }

    private void noWalks() {
        for (int n : new int[] {-1, 13, 14, LEAST, MOST}) {
            due("walks(" + n + ", 0)", new QuaternionNet().walks(n, 0), VOID);
            due("walks(" + n + ", 1)", new QuaternionNet().walks(n, 1), VOID);
        }
        for (int bare : new int[] {-1, 2, LEAST, MOST}) {
            for (int n : new int[] {0, 2, 12}) due("bare " + bare, new QuaternionNet().walks(n, bare), VOID);
        }
    }

    private void eachStepItsOwn() {
        int[][] to = table(13, 3);
        int pairs = 0, same = 0;
        for (int s = 0; s < 14; s++) {
            for (int t = 0; t < s; t++) if (to[0][s] == to[0][t]) same++;
            for (int back : to[to[0][s]]) if (back == 0) pairs++;
        }
        due("two that lead to the same", same, 3);
        due("closed pairs", pairs, 20);
        due("walks(2, 0)", of(13, 3).walks(2, 0), pairs);
    }

    private void ownReverseInTheNetwork() {
        int[][] to = table(13, 3);
        QuaternionNet x = of(13, 3);
        int own = 0;
        for (int s = 0; s < 14; s++) {
            due("never as a QUATERNION", x.step(s, 4) == s ? 1 : 0, 0);
            if (to[to[0][s]][s] == 0) own++;
        }
        due("own REVERSES in THE NETWORK", own, 6);
        due("a row of twice the same is BARE", x.walks(2, 1), 6);
        due("and a RING", x.ring(), 2);
    }

    // ---- rings

    private void ringsOfAll() {
        int[] want = {4, 6, 2, 4, 4, 2, 4, 4, 2, 2, 3};
        for (int i = 0; i < want.length; i++) {
            int[] pq = networks().get(i);
            QuaternionNet x = of(pq[0], pq[1]);
            due("ring of " + pq[0] + ", " + pq[1], x.ring(), want[i]);
            for (int n = 1; n < want[i]; n++) due("no shorter one", x.walks(n, 1), 0);
            due("one so long", x.walks(want[i], 1) > 0 ? 1 : 0, 1);
        }
    }

    private void ringOfTheFirst() {
        QuaternionNet x = new QuaternionNet();
        due("n 0 is none of 1 .. 12", x.walks(0, 1), 1);
        due("ring()", x.ring(), 4);
        x.modulus(7);
        due("of another network", x.ring(), 6);
        x.prime(17);
        due("of another network", x.ring(), 4);
        x.modulus(3);
        due("of another network", x.ring(), 2);
    }

    /** With these p and q there is always one: BARE WALKS of 12 STEPS are more than there are NODES. */
    private void noRingIsMissing() {
        for (int[] pq : networks()) due("NOT", of(pq[0], pq[1]).ring() == NOT ? 1 : 0, 0);
    }

    // ---- counted

    private static int countedSlowly(int p, int q, int n) {
        int norm = 1;
        for (int i = 0; i < n; i++) norm *= p;
        int found = 0;
        for (int b = -32; b <= 32; b++) {
            for (int c = -32; c <= 32; c++) {
                for (int d = -32; d <= 32; d++) {
                    if (b % q != 0 || c % q != 0 || d % q != 0) continue;
                    for (int a = 1; a <= 32; a++) if (norm(a, b, c, d) == norm && right(a, b, c, d)) found++;
                }
            }
        }
        return found;
    }

    private void countedOfAll() {
        for (int[] pq : networks()) {
            QuaternionNet x = of(pq[0], pq[1]);
            int power = 1;
            for (int n = 0; n <= 4; n++) {
                due("counted(" + n + ")", x.counted(n), power > 1000 ? STATE : countedSlowly(pq[0], pq[1], n));
                power *= pq[0];
            }
        }
    }

    private void countedOfNought() {
        for (int[] pq : networks()) due("counted(0)", of(pq[0], pq[1]).counted(0), 1);
    }

    private void countedAtTheEnds() {
        due("5 to the 4 is 625", of(5, 3).counted(4), 55);
        due("5 to the 4, q 7", of(5, 7).counted(4), 1);
        due("29 to the 2 is 841", of(29, 3).counted(2), 73);
        due("13 to the 2, q 5", of(13, 5).counted(2), 1);
        due("of n 1 none", of(29, 3).counted(1), 0);
    }

    private void notCounted() {
        for (int p : PRIMES) {
            for (int n : new int[] {-1, 5, 6, LEAST, MOST}) due("counted(" + n + ")", of(p, 7).counted(n), BAD);
        }
        due("13 to the 3 is 2197", of(13, 3).counted(3), STATE);
        due("17 to the 3 is 4913", of(17, 3).counted(3), STATE);
        due("29 to the 3 is 24389", of(29, 3).counted(3), STATE);
        for (int p : new int[] {13, 17, 29}) due("to the 4", of(p, 7).counted(4), STATE);
        due("5 to the 3", of(5, 7).counted(3), 0);
    }

    // ---- bounds

    private void boundsOfAll() {
        BigInteger most = BigInteger.valueOf(Long.MAX_VALUE);
        for (int[] pq : networks()) {
            QuaternionNet x = of(pq[0], pq[1]);
            BigInteger nodes = BigInteger.valueOf(x.count(3)), steps = BigInteger.valueOf(x.count(2));
            for (int n = 2; n <= 12; n += 2) {
                BigInteger walks = nodes.multiply(BigInteger.valueOf(x.walks(n, 0)));
                BigInteger less = steps.pow(n).multiply(BigInteger.valueOf(1 + x.count(9)));
                // with these p and q none of them is beyond a long, so that VOID comes of n alone
                due("beyond a long", walks.max(less).compareTo(most) > 0 ? 1 : 0, 0);
                BigInteger rest = walks.subtract(less);
                BigInteger r = BigInteger.valueOf(x.bound(n));
                due("r is 0 or more", r.signum() < 0 ? 1 : 0, 0);
                due("r to the n is no more", r.pow(n).compareTo(rest) <= 0 ? 1 : 0, 1);
                due("the next is more", r.add(BigInteger.ONE).pow(n).compareTo(rest) > 0 ? 1 : 0, 1);
            }
        }
    }

    private void boundsAtTheEnds() {
        due("n 2", of(5, 3).bound(2), 8);
        due("n 12", of(5, 3).bound(12), 2);
        due("n 2, the greatest", of(17, 7).bound(2), 73);
        due("n 12, the greatest numbers", of(29, 3).bound(12), 7);
        due("without SIDES once", of(13, 3).bound(2), 6);
        due("without SIDES once", of(29, 7).bound(12), 10);
    }

    private void noBound() {
        for (int n : new int[] {-12, -2, -1, 0, 1, 3, 5, 7, 9, 11, 13, 14, 16, LEAST, MOST, LEAST + 2, MOST - 1}) {
            due("bound(" + n + ")", new QuaternionNet().bound(n), VOID);
        }
    }

    private void numbersNotAsTold() {
        QuaternionNet x = of(29, 7);
        due("bound(0)", x.bound(0), VOID);
        due("bound(11)", x.bound(11), VOID);
        due("bound(14)", x.bound(14), VOID);
        due("walks(13, 0)", x.walks(13, 0), VOID);
        due("step(30, 0)", x.step(30, 0), VOID);
        due("norm(6)", x.norm(6), VOID);
        due("VOID is the least long", QuaternionNet.VOID, Long.MIN_VALUE);
    }
}
