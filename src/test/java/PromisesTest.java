/** Each promise by itself: ordinary calls, the edges that the document names, wrong calls. */
public final class PromisesTest {
    private static final Checks CHECKS = new Checks("PromisesTest");
    private static final int BAD = -1, NOT = -2, FULL = -3, STATE = -5;
    private static final long VOID = Long.MIN_VALUE;
    private static final int[] OUTSIDE = {-1, 6, Integer.MIN_VALUE, Integer.MAX_VALUE};

    private static void due(String call, long got, long want) {
        CHECKS.due(call, got, want);
    }

    private static void isRegister(String told, QuaternionNet x, int r, long a, long b, long c, long d) {
        due(told + ": part 0", x.part(r, 0), a);
        due(told + ": part 1", x.part(r, 1), b);
        due(told + ": part 2", x.part(r, 2), c);
        due(told + ": part 3", x.part(r, 3), d);
    }

    private static void isRow(QuaternionNet x, int row, int... want) {
        for (int i = 0; i < want.length; i++) due("row " + row + ", place " + i, x.get(row, i), want[i]);
        due("row " + row + ", behind it", x.get(row, want.length), VOID);
    }

    private static void lay(QuaternionNet x, int row, int... steps) {
        due("row", x.row(row, steps.length), 1);
        for (int i = 0; i < steps.length; i++) due("set", x.set(row, i, steps[i]), 1);
    }

    private static QuaternionNet network(int p, int q) {
        QuaternionNet x = new QuaternionNet();
        if (q != 5) x.modulus(q);
        x.prime(p);
        x.modulus(q);
        due("network: p", x.count(0), p);
        due("network: q", x.count(1), q);
        return x;
    }

    private static void promise1() {
        QuaternionNet x = new QuaternionNet();
        int[] counts = {5, 3, 6, 24, 0, 0, 0, 0, 0, 1};
        for (int i = 0; i < counts.length; i++) due("1: count(" + i + ")", x.count(i), counts[i]);
        for (int r = 0; r < 6; r++) isRegister("1: register " + r, x, r, 0, 0, 0, 0);
        due("1: no deed", x.back(), STATE);
        due("1: no image", x.restore(), STATE);
        due("1: no trouble", x.why(0, 0), NOT);
        due("1: no row", x.ends(0), -11);
    }

    private static void promise2() {
        QuaternionNet x = new QuaternionNet();
        due("2: put", x.put(0, 1, 2, 3, 4), 1);
        isRegister("2", x, 0, 1, 2, 3, 4);
        due("2: the ends", x.put(5, 9999, -9999, 9999, -9999), 1);
        isRegister("2: the ends", x, 5, 9999, -9999, 9999, -9999);
        due("2: a beyond", x.put(0, 10000, 0, 0, 0), BAD);
        due("2: b beyond", x.put(0, 0, -10000, 0, 0), BAD);
        due("2: c beyond", x.put(0, 0, 0, Integer.MIN_VALUE, 0), BAD);
        due("2: d beyond", x.put(0, 0, 0, 0, Integer.MAX_VALUE), BAD);
        isRegister("2: refused", x, 0, 1, 2, 3, 4);
        for (int r : OUTSIDE) due("2: put(" + r + ")", x.put(r, 1, 2, 3, 4), BAD);
    }

    private static void promise3() {
        QuaternionNet x = new QuaternionNet();
        x.put(3, -5, 6, 0, 8);
        isRegister("3", x, 3, -5, 6, 0, 8);
        isRegister("3: others", x, 2, 0, 0, 0, 0);
        for (int r : OUTSIDE) due("3: part(" + r + ", 0)", x.part(r, 0), VOID);
        for (int i : new int[] {-1, 4, Integer.MIN_VALUE, Integer.MAX_VALUE}) due("3: i " + i, x.part(3, i), VOID);
    }

    private static void promise4() {
        QuaternionNet x = new QuaternionNet();
        due("4: nothing", x.norm(0), 0);
        x.put(1, 1, -2, 3, -4);
        due("4", x.norm(1), 30);
        x.put(1, -9999, -9999, 9999, 9999);
        due("4: the most", x.norm(1), 399920004);
        for (int r : OUTSIDE) due("4: norm(" + r + ")", x.norm(r), VOID);
    }

    private static void promise5() {
        QuaternionNet x = new QuaternionNet();
        x.put(0, 1, 2, 3, 4);
        x.put(1, 5, 6, 7, 8);
        due("5", x.times(2, 0, 1), 1);
        isRegister("5", x, 2, -60, 12, 30, 24);
        due("5: the other way round", x.times(2, 1, 0), 1);
        isRegister("5: the other way round", x, 2, -60, 20, 14, 32);
        due("5: onto itself", x.times(1, 1, 1), 1);
        isRegister("5: onto itself", x, 1, -124, 60, 70, 80);
        x.put(0, 9999, 0, 0, 0);
        x.put(1, 0, 1, -1, 1);
        due("5: the most", x.times(3, 0, 1), 1);
        isRegister("5: the most", x, 3, 0, 9999, -9999, 9999);
        x.put(0, 2500, 0, 0, 0);
        x.put(1, 1, 1, 1, 4);
        due("5: beyond", x.times(3, 0, 1), STATE);
        x.put(1, 1, 1, -4, 1);
        due("5: beyond below", x.times(3, 0, 1), STATE);
        x.put(0, 9999, 9999, 9999, 9999);
        due("5: far beyond", x.times(3, 0, 0), STATE);
        isRegister("5: refused", x, 3, 0, 9999, -9999, 9999);
        for (int r : OUTSIDE) {
            due("5: r " + r, x.times(r, 0, 0), BAD);
            due("5: s " + r, x.times(0, r, 0), BAD);
            due("5: t " + r, x.times(0, 0, r), BAD);
        }
    }

    private static void promise6() {
        QuaternionNet x = new QuaternionNet();
        x.put(0, 1, 2, 3, 4);
        x.put(1, 50, 60, 70, 80);
        due("6: together", x.sum(2, 0, 1, 0), 1);
        isRegister("6: together", x, 2, 51, 62, 73, 84);
        due("6: less", x.sum(0, 0, 1, 1), 1);
        isRegister("6: less", x, 0, -49, -58, -67, -76);
        x.put(0, 9999, -9999, 0, 0);
        x.put(1, 0, 0, 0, 1);
        due("6: the most", x.sum(2, 0, 1, 0), 1);
        x.put(1, 1, 0, 0, 0);
        due("6: beyond", x.sum(2, 0, 1, 0), STATE);
        due("6: not beyond", x.sum(3, 0, 1, 1), 1);
        x.put(1, 0, 1, 0, 0);
        due("6: beyond below", x.sum(2, 0, 1, 1), STATE);
        isRegister("6: refused", x, 2, 9999, -9999, 0, 1);
        for (int r : OUTSIDE) {
            due("6: r " + r, x.sum(r, 0, 0, 0), BAD);
            due("6: s " + r, x.sum(0, r, 0, 0), BAD);
            due("6: t " + r, x.sum(0, 0, r, 0), BAD);
        }
        for (int sign : new int[] {-1, 2, Integer.MIN_VALUE}) due("6: sign " + sign, x.sum(2, 0, 0, sign), BAD);
        isRegister("6: refused", x, 2, 9999, -9999, 0, 1);
    }

    private static void promise7() {
        QuaternionNet x = new QuaternionNet();
        x.put(0, 3, -2, 4, 6);
        due("7: right", x.flip(0), 1);
        isRegister("7", x, 0, 3, 2, -4, -6);
        x.put(0, -3, 0, 0, 2);
        due("7: right below 0", x.flip(0), 1);
        isRegister("7", x, 0, -3, 0, 0, -2);
        int[][] wrong = {{2, 2, 2, 2}, {1, 1, 2, 2}, {1, 2, -1, 2}, {1, 2, 2, 3}, {0, 0, 0, 0}, {-2, 0, 0, 0}};
        for (int[] w : wrong) {
            x.put(0, w[0], w[1], w[2], w[3]);
            due("7: not right", x.flip(0), 0);
            isRegister("7: not right", x, 0, w[0], -w[1], -w[2], -w[3]);
        }
        for (int r : OUTSIDE) due("7: flip(" + r + ")", x.flip(r), BAD);
    }

    private static void promise8() {
        QuaternionNet x = new QuaternionNet();
        x.put(0, 1, 2, 3, 4);
        x.note(0);
        x.row(0, 2);
        x.feed('r');
        x.walk(1);
        due("8: the same", x.prime(5), 5);
        due("8: the same leaves PLACE", x.count(4), 2);
        due("8: the same leaves DEEDS", x.count(5), 1);
        for (int p : new int[] {3, 7, 0, -5, 37, 41, 11, 2, Integer.MIN_VALUE}) due("8: prime(" + p + ")", x.prime(p), BAD);
        due("8: refused leaves DEEDS", x.count(5), 1);
        due("8: 29", x.prime(29), 5);
        due("8: p", x.count(0), 29);
        due("8: q", x.count(1), 3);
        due("8: STEPS", x.count(2), 30);
        due("8: NODES", x.count(3), 24);
        due("8: PLACE", x.count(4), 0);
        due("8: no DEEDS", x.count(5), 0);
        isRegister("8: registers stay", x, 0, 1, 2, 3, 4);
        due("8: the book stays", x.count(6), 1);
        due("8: the tape stays", x.count(7), 1);
        due("8: rows stay", x.get(0, 1), 0);
        due("8: 13", x.prime(13), 29);
        due("8: 17", x.prime(17), 13);
        due("8: modulus", x.modulus(5), 3);
        x.walk(0);
        int place = x.count(4);
        due("8: it is q", x.prime(5), STATE);
        due("8: refused leaves p", x.count(0), 17);
        due("8: refused leaves PLACE", x.count(4), place);
        due("8: refused leaves DEEDS", x.count(5), 1);
    }

    private static void promise9() {
        QuaternionNet x = new QuaternionNet();
        x.put(0, 1, 2, 3, 4);
        x.note(0);
        x.row(1, 1);
        x.walk(3);
        due("9: the same", x.modulus(3), 3);
        due("9: the same leaves PLACE", x.count(4), 4);
        due("9: it is p", x.modulus(5), STATE);
        for (int q : new int[] {0, 1, 2, 4, 9, 11, -3, Integer.MAX_VALUE}) due("9: modulus(" + q + ")", x.modulus(q), BAD);
        due("9: refused leaves PLACE", x.count(4), 4);
        due("9: refused leaves DEEDS", x.count(5), 1);
        due("9: 7", x.modulus(7), 3);
        due("9: q", x.count(1), 7);
        due("9: NODES", x.count(3), 336);
        due("9: PLACE", x.count(4), 0);
        due("9: no DEEDS", x.back(), STATE);
        isRegister("9: registers stay", x, 0, 1, 2, 3, 4);
        due("9: the book stays", x.book(0, 4), 1);
        due("9: rows stay", x.get(1, 0), 0);
        x.prime(13);
        due("9: 5", x.modulus(5), 7);
        due("9: NODES", x.count(3), 120);
        due("9: walks anew", x.walks(2, 0), 14);
        due("9: 3", x.modulus(3), 5);
        due("9: NODES", x.count(3), 12);
    }

    private static void promise10() {
        QuaternionNet x = new QuaternionNet();
        int[][] five = {{1, -2, 0, 0, 5}, {1, 0, -2, 0, 4}, {1, 0, 0, -2, 3}, {1, 0, 0, 2, 2}, {1, 0, 2, 0, 1}, {1, 2, 0, 0, 0}};
        for (int s = 0; s < 6; s++) {
            for (int i = 0; i < 5; i++) due("10: step(" + s + ", " + i + ")", x.step(s, i), five[s][i]);
        }
        for (int s : OUTSIDE) due("10: step " + s, x.step(s, 0), VOID);
        for (int i : new int[] {-1, 5, Integer.MIN_VALUE}) due("10: i " + i, x.step(0, i), VOID);
        x.prime(13);
        int[][] thirteen = {{1, -2, -2, -2, 7}, {1, -2, -2, 2, 6}, {1, -2, 2, -2, 5}, {1, -2, 2, 2, 4}, {1, 2, -2, -2, 3},
            {1, 2, -2, 2, 2}, {1, 2, 2, -2, 1}, {1, 2, 2, 2, 0}, {3, -2, 0, 0, 13}, {3, 0, -2, 0, 12}, {3, 0, 0, -2, 11},
            {3, 0, 0, 2, 10}, {3, 0, 2, 0, 9}, {3, 2, 0, 0, 8}};
        for (int s = 0; s < 14; s++) {
            for (int i = 0; i < 5; i++) due("10: step(" + s + ", " + i + ")", x.step(s, i), thirteen[s][i]);
        }
        due("10: no more", x.step(14, 0), VOID);
        x.prime(29);
        due("10: first of 29", x.step(0, 0), 3);
        due("10: first of 29", x.step(0, 1), -4);
        due("10: last of 29", x.step(29, 0), 5);
        due("10: last of 29", x.step(29, 1), 2);
        due("10: no more", x.step(30, 4), VOID);
    }

    private static void promise11() {
        QuaternionNet x = new QuaternionNet();
        int[][] first = {{1, 0, 0, 0, 0}, {1, 1, 0, 0, 1}, {1, 0, 1, 0, 1}, {1, 0, 0, 1, 1}, {1, 0, 0, 2, 1}, {1, 0, 2, 0, 1},
            {1, 2, 0, 0, 1}, {0, 1, 0, 0, 0}};
        for (int n = 0; n < first.length; n++) {
            for (int i = 0; i < 5; i++) due("11: node(" + n + ", " + i + ")", x.node(n, i), first[n][i]);
        }
        for (int n : new int[] {-1, 24, Integer.MIN_VALUE, Integer.MAX_VALUE}) due("11: node " + n, x.node(n, 0), BAD);
        for (int i : new int[] {-1, 5, Integer.MIN_VALUE}) due("11: i " + i, x.node(0, i), BAD);
        x.prime(13);
        for (int n = 0; n < 12; n++) due("11: no SIDES", x.node(n, 4), NOT);
        due("11: no such node", x.node(12, 4), BAD);
    }

    private static void promise12() {
        QuaternionNet x = new QuaternionNet();
        due("12: nothing has no CLASS", x.nodeOf(0), STATE);
        x.put(0, 7, 0, 0, 0);
        due("12: node 0", x.nodeOf(0), 0);
        x.put(0, -1, 0, 0, 0);
        due("12: node 0 with the other sign", x.nodeOf(0), 0);
        x.put(0, 2, -1, 3, -3);
        due("12: 2, 2, 0, 0 is 1, 1, 0, 0", x.nodeOf(0), 1);
        x.put(0, 1, 1, 1, 0);
        due("12: NORM 3 has no CLASS", x.nodeOf(0), STATE);
        for (int n = 0; n < 24; n++) {
            x.put(1, 2 * x.node(n, 0), 2 * x.node(n, 1), 2 * x.node(n, 2), 2 * x.node(n, 3));
            due("12: nodeOf node " + n, x.nodeOf(1), n);
        }
        x.put(0, 1, 0, 0, 0);
        due("12: not the latest put", x.nodeOf(1), 23);
        x.prime(13);
        x.put(0, 1, 1, 0, 0);
        due("12: no NODE", x.nodeOf(0), NOT);
        for (int r : OUTSIDE) due("12: nodeOf(" + r + ")", x.nodeOf(r), BAD);
    }

    private static void promise13() {
        QuaternionNet x = new QuaternionNet();
        for (int s = 0; s < 6; s++) due("13: to(0, " + s + ")", x.to(0, s), s + 1);
        due("13: first new one", x.to(1, 0), 7);
        for (int n = 0; n < 24; n++) {
            for (int s = 0; s < 6; s++) due("13: and by the REVERSE", x.to(x.to(n, s), (int) x.step(s, 4)), n);
        }
        for (int s : OUTSIDE) due("13: step " + s, x.to(0, s), BAD);
        for (int n : new int[] {-1, 24, Integer.MIN_VALUE, Integer.MAX_VALUE}) due("13: node " + n, x.to(n, 0), BAD);
    }

    private static void promise14() {
        QuaternionNet x = new QuaternionNet();
        due("14: itself", x.far(5, 5), 0);
        due("14: one", x.far(0, 6), 1);
        due("14: two", x.far(1, 6), 2);
        due("14: shared", x.far(1, 23), 2);
        due("14: both ways", x.far(23, 1), 2);
        due("14: three", x.far(0, 23), 3);
        for (int n : new int[] {-1, 24, Integer.MIN_VALUE, Integer.MAX_VALUE}) {
            due("14: one " + n, x.far(n, 0), BAD);
            due("14: other " + n, x.far(0, n), BAD);
        }
    }

    private static void promise15() {
        QuaternionNet x = new QuaternionNet();
        int[] many = {1, 6, 11, 6, 0, 0};
        for (int k = 0; k < many.length; k++) due("15: many(" + k + ")", x.many(k), many[k]);
        due("15: the greatest", x.many(-1), 3);
        due("15: far beyond", x.many(Integer.MAX_VALUE), 0);
        due("15: below -1", x.many(-2), BAD);
        due("15: far below", x.many(Integer.MIN_VALUE), BAD);
        x.prime(13);
        due("15: one step to any", x.many(1), 11);
        due("15: the greatest", x.many(-1), 1);
    }

    private static void promise16() {
        due("16: 5, 3", network(5, 3).ring(), 4);
        due("16: 5, 7", network(5, 7).ring(), 6);
        due("16: 13, 3", network(13, 3).ring(), 2);
        due("16: 13, 7", network(13, 7).ring(), 4);
        due("16: 29, 7", network(29, 7).ring(), 3);
    }

    private static void promise17() {
        QuaternionNet x = new QuaternionNet();
        long[] closed = {1, 0, 6, 0, 120, 0, 3936};
        long[] bare = {1, 0, 0, 0, 54, 0, 1656};
        for (int n = 0; n < closed.length; n++) {
            due("17: walks(" + n + ", 0)", x.walks(n, 0), closed[n]);
            due("17: walks(" + n + ", 1)", x.walks(n, 1), bare[n]);
        }
        due("17: shared", x.walks(12, 0), 181401600L);
        due("17: shared, bare", x.walks(12, 1), 24430854L);
        for (int n : new int[] {-1, 13, Integer.MIN_VALUE, Integer.MAX_VALUE}) {
            due("17: n " + n, x.walks(n, 0), VOID);
            due("17: n " + n, x.walks(n, 1), VOID);
        }
        for (int bareness : new int[] {-1, 2, Integer.MIN_VALUE}) due("17: bare " + bareness, x.walks(2, bareness), VOID);
        x.prime(13);
        due("17: another network", x.walks(12, 0), 4724492701696L);
        x.prime(29);
        due("17: the greatest", x.walks(12, 0), 44286751632586752L);
    }

    private static void promise18() {
        QuaternionNet x = new QuaternionNet();
        int[] five = {1, 0, 1, 0, 55};
        for (int n = 0; n < 5; n++) due("18: counted(" + n + ")", x.counted(n), five[n]);
        for (int n : new int[] {-1, 5, Integer.MIN_VALUE, Integer.MAX_VALUE}) due("18: n " + n, x.counted(n), BAD);
        x.prime(13);
        due("18: 13 to the 2", x.counted(2), 7);
        due("18: 13 to the 3", x.counted(3), STATE);
        due("18: 13 to the 4", x.counted(4), STATE);
        due("18: n first", x.counted(5), BAD);
        x.prime(29);
        due("18: none", x.counted(0), 1);
        due("18: 29 to the 2", x.counted(2), 73);
        due("18: 29 to the 3", x.counted(3), STATE);
    }

    private static void promise19() {
        QuaternionNet x = new QuaternionNet();
        // 24 times 6 less twice 36 is 72; 24 times 120 less twice 1296 is 288; 24 times 3936 less twice 46656 is 1152
        due("19: bound(2)", x.bound(2), 8);
        due("19: bound(4)", x.bound(4), 4);
        due("19: bound(6)", x.bound(6), 3);
        due("19: bound(12)", x.bound(12), 2);
        for (int n : new int[] {0, -2, 1, 3, 11, 13, 14, Integer.MIN_VALUE}) due("19: n " + n, x.bound(n), VOID);
        due("19: without SIDES", network(13, 3).bound(2), 6);
        due("19: shared", network(13, 7).bound(12), 8);
    }

    private static void promise20() {
        QuaternionNet x = new QuaternionNet();
        due("20: to node 0", x.way(0, -1), 0);
        due("20: to node 0", x.way(0, 0), NOT);
        due("20: one", x.way(4, -1), 1);
        due("20: one", x.way(4, 0), 3);
        due("20: no more", x.way(4, 1), NOT);
        due("20: two", x.way(7, -1), 2);
        due("20: two", x.way(7, 0), 0);
        due("20: two", x.way(7, 1), 0);
        due("20: no more", x.way(7, 2), NOT);
        due("20: far beyond", x.way(7, Integer.MAX_VALUE), NOT);
        due("20: i", x.way(7, -2), BAD);
        for (int n : new int[] {-1, 24, Integer.MIN_VALUE, Integer.MAX_VALUE}) due("20: node " + n, x.way(n, -1), BAD);
    }

    private static void promise21() {
        QuaternionNet x = new QuaternionNet();
        x.put(0, 1, -2, -2, 4);
        isApart(x, 0, 0, 1);
        x.put(0, -1, 2, 2, -4);
        isApart(x, 0, 0, 1);
        x.put(0, 1, -2, -2, -4);
        isApart(x, 0, 1, 0);
        x.put(0, 1, 0, 0, 0);
        isApart(x, 0);
        x.put(0, -1, 0, 0, 0);
        isApart(x, 0);
        x.put(0, 3, 4, 0, 0);
        isApart(x, 0, 0, 0);
        int[][] never = {{0, 0, 0, 0}, {0, 1, 0, 0}, {5, 0, 0, 0}, {5, 10, 0, 0}, {2, 1, 0, 0}, {3, 2, 0, 0}, {4, 3, 0, 0}};
        for (int[] w : never) {
            x.put(1, w[0], w[1], w[2], w[3]);
            due("21: how many", x.apart(1, -1), STATE);
            due("21: first", x.apart(1, 0), STATE);
            due("21: far behind", x.apart(1, 50), STATE);
        }
        due("21: i first", x.apart(1, -2), BAD);
        for (int r : OUTSIDE) due("21: r " + r, x.apart(r, -1), BAD);
        x.prime(13);
        x.put(0, 1, -2, -2, -2);
        isApart(x, 0, 0);
        x.put(0, 1, -2, -2, 4);
        due("21: NORM of another p", x.apart(0, -1), STATE);
    }

    private static void promise21OfTwelve() {
        QuaternionNet x = new QuaternionNet();
        int[] steps = {0, 2, 0, 4, 5, 3, 0, 0, 1, 1, 3, 1};
        lay(x, 0, steps);
        due("21: product of twelve", x.product(0, 0), 12);
        isRegister("21: product of twelve", x, 0, 7997, 6026, -8584, 8378);
        due("21: its NORM", x.norm(0), 244140625);
        isApart(x, 0, steps);
        x.put(0, -7997, -6026, 8584, -8378);
        isApart(x, 0, steps);
    }

    private static void isApart(QuaternionNet x, int r, int... want) {
        due("21: how many", x.apart(r, -1), want.length);
        for (int i = 0; i < want.length; i++) due("21: apart(" + i + ")", x.apart(r, i), want[i]);
        due("21: no more", x.apart(r, want.length), NOT);
    }

    private static void promises22And23() {
        QuaternionNet x = new QuaternionNet();
        due("22", x.walk(0), 1);
        due("22: PLACE", x.count(4), 1);
        due("22: from there", x.walk(0), 7);
        for (int s : OUTSIDE) due("22: walk(" + s + ")", x.walk(s), BAD);
        due("22: DEEDS", x.count(5), 2);
        due("23", x.back(), 1);
        due("23: PLACE", x.count(4), 1);
        due("23: once more", x.back(), 0);
        due("23: none", x.back(), STATE);
        due("23: DEEDS", x.count(5), 0);
        int[] places = new int[21];
        for (int i = 1; i <= 20; i++) {
            places[i] = x.walk(i % 6);
            due("23: at most 16", x.count(5), Math.min(i, 16));
        }
        for (int i = 19; i >= 4; i--) due("23: latest first", x.back(), places[i]);
        due("23: the eldest are none", x.back(), STATE);
        due("23: refused leaves PLACE", x.count(4), places[4]);
    }

    private static void promise24() {
        QuaternionNet x = new QuaternionNet();
        due("24: missing", x.ends(1), -11);
        lay(x, 1, 0, 0);
        due("24: from node 0", x.ends(1), 7);
        due("24: PLACE stays", x.count(4), 0);
        x.walk(5);
        due("24: from PLACE", x.ends(1), 1);
        lay(x, 2);
        due("24: no places", x.ends(2), 6);
        lay(x, 2, 0, 6, 0);
        due("24: no STEP", x.ends(2), BAD);
        lay(x, 2, 6, 0, 0);
        due("24: no STEP", x.ends(2), BAD);
        lay(x, 2, 0, 0, -1);
        due("24: no STEP", x.ends(2), BAD);
        x.prime(13);
        lay(x, 2, 13, 6, 0);
        due("24: a STEP of 13", x.ends(2), x.to(x.to(x.to(0, 13), 6), 0));
        for (int row : new int[] {-1, 3, Integer.MIN_VALUE, Integer.MAX_VALUE}) due("24: row " + row, x.ends(row), BAD);
    }

    private static void promise25() {
        QuaternionNet x = new QuaternionNet();
        due("25: missing", x.meets(0), -11);
        lay(x, 0);
        due("25: no places", x.meets(0), NOT);
        lay(x, 0, 0, 5);
        due("25: PLACE", x.meets(0), 1);
        lay(x, 0, 1, 0, 5, 4);
        due("25: the first one", x.meets(0), 2);
        lay(x, 0, 0, 0);
        due("25: none", x.meets(0), NOT);
        lay(x, 0, 5);
        due("25: none behind its one place", x.meets(0), NOT);
        lay(x, 0, 0, 5, 0, 6);
        due("25: no STEP behind it", x.meets(0), BAD);
        lay(x, 0, -1, 0);
        due("25: no STEP ahead of it", x.meets(0), BAD);
        x.walk(3);
        lay(x, 0, 0, 1, 4, 5);
        due("25: from PLACE", x.meets(0), 2);
        for (int row : new int[] {-1, 3, Integer.MIN_VALUE, Integer.MAX_VALUE}) due("25: row " + row, x.meets(row), BAD);
    }

    private static void promise26() {
        QuaternionNet x = new QuaternionNet();
        due("26: missing", x.product(0, 0), -11);
        lay(x, 0, 0, 1);
        due("26", x.product(3, 0), 2);
        isRegister("26", x, 3, 1, -2, -2, 4);
        lay(x, 0);
        due("26: none", x.product(3, 0), 0);
        isRegister("26: none", x, 3, 1, 0, 0, 0);
        lay(x, 0, 0, 1, 6);
        due("26: no STEP", x.product(3, 0), BAD);
        lay(x, 0, 6, 1);
        due("26: no STEP", x.product(3, 0), BAD);
        x.row(1, 11);
        due("26: eleven times the same", x.product(4, 1), 11);
        due("26: its NORM", x.norm(4), 48828125);
        x.row(1, 12);
        due("26: beyond", x.product(4, 1), STATE);
        due("26: refused", x.norm(4), 48828125);
        x.row(1, 40);
        due("26: far beyond", x.product(4, 1), STATE);
        x.set(1, 39, 6);
        due("26: no STEP behind what is beyond", x.product(4, 1), BAD);
        for (int r : OUTSIDE) {
            due("26: r " + r, x.product(r, 0), BAD);
            due("26: r " + r + ", missing", x.product(r, 2), BAD);
        }
        for (int row : new int[] {-1, 3, Integer.MIN_VALUE, Integer.MAX_VALUE}) due("26: row " + row, x.product(0, row), BAD);
        isRegister("26: refused", x, 3, 1, 0, 0, 0);
    }

    private static void promise27() {
        QuaternionNet x = new QuaternionNet();
        due("27", x.film(0, 23), 3);
        isRow(x, 0, x.way(23, 0), x.way(23, 1), x.way(23, 2));
        due("27: it leads there", x.ends(0), 23);
        due("27: less", x.film(0, 7), 2);
        isRow(x, 0, 0, 0);
        due("27: to node 0", x.film(0, 0), 0);
        isRow(x, 0);
        due("27: it is there", x.ends(0), 0);
        for (int row : new int[] {-1, 3, Integer.MIN_VALUE, Integer.MAX_VALUE}) due("27: row " + row, x.film(row, 1), BAD);
        for (int n : new int[] {-1, 24, Integer.MIN_VALUE, Integer.MAX_VALUE}) due("27: node " + n, x.film(1, n), BAD);
        due("27: refused", x.ends(1), -11);
    }

    private static void promises28To30() {
        QuaternionNet x = new QuaternionNet();
        for (int k = 0; k < 7; k++) {
            x.put(0, k, 0, 0, -k);
            due("28: a new one", x.note(0), 1);
        }
        due("28: seven", x.count(6), 7);
        due("28: again", x.note(0), 2);
        x.put(0, 6, 0, 0, 6);
        due("28: FULL", x.note(0), FULL);
        x.put(0, 2, 0, 0, -2);
        due("28: again", x.note(0), 2);
        due("28: again", x.note(0), 3);
        long[] third = {2, 0, 0, -2, 3};
        for (int what = 0; what < 5; what++) due("29: book(2, " + what + ")", x.book(2, what), third[what]);
        due("29: the last", x.book(6, 4), 2);
        for (int i : new int[] {-1, 7, Integer.MIN_VALUE, Integer.MAX_VALUE}) due("29: i " + i, x.book(i, 0), VOID);
        for (int what : new int[] {-1, 5, Integer.MIN_VALUE}) due("29: what " + what, x.book(0, what), VOID);
        due("30", x.strike(0), 3);
        due("30: no more", x.strike(0), NOT);
        due("30: six", x.count(6), 6);
        due("30: the next come up", x.book(2, 0), 3);
        due("30: the next come up", x.book(5, 0), 6);
        due("30: the next come up", x.book(5, 4), 2);
        due("29: no more", x.book(6, 0), VOID);
        due("28: behind the others", x.note(0), 1);
        due("29: behind the others", x.book(6, 0), 2);
        x.put(0, 0, 0, 0, 0);
        due("30: the first", x.strike(0), 1);
        due("30: the next come up", x.book(0, 0), 1);
        due("30: seven less one", x.count(6), 6);
        x.put(0, 2, 0, 0, -2);
        due("30: the last", x.strike(0), 1);
        due("30: the last", x.book(5, 4), VOID);
        for (int r : OUTSIDE) {
            due("28: note(" + r + ")", x.note(r), BAD);
            due("30: strike(" + r + ")", x.strike(r), BAD);
        }
    }

    private static void promises31And32() {
        QuaternionNet x = new QuaternionNet();
        due("32: empty", x.wipe(), 0);
        for (int letter : new int[] {31, 127, 0, -1, 256 + 40, Integer.MIN_VALUE}) due("31: " + letter, x.feed(letter), BAD);
        due("31: 32", x.feed(32), 1);
        due("31: 126", x.feed(126), 2);
        for (int n = 3; n <= 80; n++) due("31: " + n, x.feed('r'), n);
        due("31: FULL", x.feed('r'), FULL);
        due("31: BAD first", x.feed(31), BAD);
        due("31: bytes", x.count(7), 80);
        due("32", x.wipe(), 80);
        due("32: empty", x.wipe(), 0);
        due("32: bytes", x.count(7), 0);
        x.feed('~');
        x.wipe();
        due("32: nothing of it is read", Checks.read(x, "g1", 0), 1);
    }

    private static void reads(QuaternionNet x, String text, int a, int b, int c, int d) {
        x.put(5, 77, 77, 77, 77);
        due("33: " + text, Checks.read(x, text, 5), 1);
        isRegister("33: " + text, x, 5, a, b, c, d);
        due("33: the tape is empty", x.count(7), 0);
    }

    /** A text that is refused, with this answer, and these troubles: sort, number, sort, number, .. */
    private static void refuses(QuaternionNet x, String text, int answer, int... troubles) {
        x.put(5, 77, 77, 77, 77);
        due("33: " + text, Checks.read(x, text, 5), answer);
        isRegister("33: " + text, x, 5, 77, 77, 77, 77);
        due("33: the tape is empty", x.count(7), 0);
        due("34: how many, " + text, x.count(8), troubles.length / 2);
        for (int i = 0; 2 * i < troubles.length; i++) {
            due("34: why(" + i + ", 0), " + text, x.why(i, 0), troubles[2 * i]);
            due("34: why(" + i + ", 1), " + text, x.why(i, 1), troubles[2 * i + 1]);
        }
        due("34: no more, " + text, x.why(troubles.length / 2, 0), NOT);
    }

    private static void promise33() {
        QuaternionNet x = new QuaternionNet();
        x.put(0, 1, 2, 3, 4);
        x.put(4, -1, 0, 0, 9999);
        reads(x, "r0", 1, 2, 3, 4);
        reads(x, "~r0", 1, -2, -3, -4);
        reads(x, "~~r0", 1, 2, 3, 4);
        reads(x, "r0*[5,6,7,8]", -60, 12, 30, 24);
        reads(x, "[5,6,7,8]*r0", -60, 20, 14, 32);
        reads(x, "~r0*[0,1,0,0]", 2, 1, -4, 3);
        reads(x, "~(r0*[0,1,0,0])", -2, -1, -4, 3);
        reads(x, "r0-r0-r0", -1, -2, -3, -4);
        reads(x, "r0-(r0-r0)", 1, 2, 3, 4);
        reads(x, "r0+r0*[2,0,0,0]-[0,0,0,1]", 3, 6, 9, 11);
        reads(x, "g0", 1, -2, 0, 0);
        reads(x, "g00*g05", 5, 0, 0, 0);
        reads(x, "[0001,-0002,-0,0]", 1, -2, 0, 0);
        reads(x, "[-9999,9999,0,-1]", -9999, 9999, 0, -1);
        reads(x, "r4", -1, 0, 0, 9999);
        reads(x, "r5+r5", 154, 154, 154, 154);
        reads(x, "((((r0))))+(((~g0)))", 2, 4, 3, 4);
        reads(x, "[1,0,0,0]*(r0-[1,2,0,4])*[0,0,2,0]", -6, 0, 0, 0);
        reads(x, "[9999,0,0,0]-[9998,0,0,0]+[9998,0,0,0]", 9999, 0, 0, 0);
        StringBuilder turns = new StringBuilder();
        for (int i = 0; i < 77; i++) turns.append('~');
        reads(x, turns + "g1", 1, 0, 2, 0);
        due("33: BAD", Checks.read(x, "g1", 6), BAD);
        due("33: BAD", x.read(-1), BAD);
        due("33: the tape stays", x.count(7), 2);
        due("33: it can be read still", x.read(1), 1);
        isRegister("33: it can be read still", x, 1, 1, 0, -2, 0);
        x.prime(13);
        reads(x, "g13", 3, 2, 0, 0);
    }

    private static void promise33OfFaults() {
        QuaternionNet x = new QuaternionNet();
        String[] texts = {"", "r", "g", "~", "[", "[1", "[1,", "[1,2,3,4", "r0+", "r0*", "[-", "[1,2,3,-"};
        for (String text : texts) refuses(x, text, -100 - text.length(), 1, text.length());
        x = new QuaternionNet(); // one is used for at most 512 calls
        refuses(x, "(r0", -103, 2, 0, 1, 3);
        refuses(x, "r0)", -102, 1, 2);
        refuses(x, "()", -101, 2, 0, 1, 1);
        refuses(x, " r0", -100, 1, 0);
        refuses(x, "r0 ", -102, 1, 2);
        refuses(x, "r6", -101, 1, 1);
        refuses(x, "r00", -102, 1, 2);
        refuses(x, "g123", -103, 1, 3);
        refuses(x, "gr", -101, 1, 1);
        refuses(x, "-r0", -100, 1, 0);
        refuses(x, "r0+-r0", -103, 1, 3);
        refuses(x, "r0~r0", -102, 1, 2);
        refuses(x, "r0(r0)", -102, 1, 2);
        x = new QuaternionNet();
        refuses(x, "[12345,0,0,0]", -105, 1, 5);
        refuses(x, "[1,2,3]", -106, 1, 6);
        refuses(x, "[1,2,3,4,5]", -108, 1, 8);
        refuses(x, "[1,,3,4]", -103, 1, 3);
        refuses(x, "[--1,2,3,4]", -102, 1, 2);
        refuses(x, "[1,2,3,4)", -108, 1, 8);
        refuses(x, "(((((g0)))))", -104, 2, 0, 2, 1, 2, 2, 2, 3, 1, 4);
        refuses(x, "(r0)*((r1)+(g1x))", -114, 2, 5, 2, 11, 1, 14);
        refuses(x, "g99*[9999,9999,0,0]*[9,9,0,0]+", -130, 1, 30);
    }

    private static void promise33OfTroubles() {
        QuaternionNet x = new QuaternionNet();
        refuses(x, "[9999,0,0,0]+[1,0,0,0]", STATE, 3, 12);
        refuses(x, "[-9999,0,0,0]-[1,0,0,0]+[1,0,0,0]", STATE, 3, 13);
        refuses(x, "[9999,0,0,0]+[1,0,0,0]-[1,0,0,0]", STATE, 3, 12);
        refuses(x, "[100,0,0,0]*[100,0,0,0]", STATE, 3, 11);
        refuses(x, "g6", NOT, 4, 6);
        refuses(x, "g99", NOT, 4, 99);
        refuses(x, "g06+g07", NOT, 4, 6);
        refuses(x, "[9999,0,0,0]+[9999,0,0,0]+g99", STATE, 3, 12);
        refuses(x, "[9999,0,0,0]+[9999,0,0,0]*g99", NOT, 4, 99);
        refuses(x, "g99+[9999,0,0,0]+[9999,0,0,0]", NOT, 4, 99);
        refuses(x, "(g1)+(g2*(~g0-(g33)))", NOT, 2, 5, 2, 9, 2, 14, 4, 33);
        refuses(x, "(g1)+((g1)*[9999,0,0,0]*(g2))", STATE, 2, 5, 3, 10);
        refuses(x, "(g1*([9999,0,0,0]*[2,0,0,0]))", STATE, 2, 0, 2, 4, 3, 17);
        refuses(x, "([9999,0,0,0])*([2,0,0,0])", STATE, 3, 14);
    }

    private static void promise34() {
        QuaternionNet x = new QuaternionNet();
        due("34: none at first", x.why(0, 1), NOT);
        refuses(x, "((g9", -104, 2, 0, 2, 1, 1, 4);
        reads(x, "g1", 1, 0, -2, 0);
        due("34: stays", x.count(8), 3);
        due("34: stays", x.why(2, 1), 4);
        x.feed('!');
        x.read(6);
        due("34: stays behind BAD", x.count(8), 3);
        x.image();
        x.wipe();
        x.prime(13);
        x.restore();
        due("34: stays behind restore", x.why(1, 1), 1);
        due("34: i below 0", x.why(-1, 0), BAD);
        due("34: what", x.why(0, -1), BAD);
        due("34: what", x.why(0, 2), BAD);
        due("34: BAD first", x.why(99, 2), BAD);
        due("34: far behind", x.why(Integer.MAX_VALUE, 1), NOT);
        refuses(x, "g77", NOT, 4, 77);
    }

    private static void promises35To37() {
        QuaternionNet x = new QuaternionNet();
        for (int row = 0; row < 3; row++) {
            due("36: missing", x.set(row, 0, 1), -11);
            due("37: missing", x.get(row, 0), VOID);
        }
        due("35", x.row(2, 40), 1);
        due("36: first", x.set(2, 0, Integer.MIN_VALUE), 1);
        due("36: last", x.set(2, 39, Integer.MAX_VALUE), 1);
        due("36: outside", x.set(2, 40, 1), -13);
        due("36: outside", x.set(2, -1, 1), -13);
        due("37: first", x.get(2, 0), Integer.MIN_VALUE);
        due("37: last", x.get(2, 39), Integer.MAX_VALUE);
        due("37: between", x.get(2, 20), 0);
        due("37: outside", x.get(2, 40), VOID);
        due("37: outside", x.get(2, -1), VOID);
        due("35: too many", x.row(2, 41), BAD);
        due("35: below", x.row(2, -2), -14);
        due("35: far below", x.row(2, Integer.MIN_VALUE), -14);
        due("35: refused", x.get(2, 39), Integer.MAX_VALUE);
        due("35: anew", x.row(2, 40), 1);
        due("35: all 0", x.get(2, 0), 0);
        due("35: all 0", x.get(2, 39), 0);
        due("35: none", x.row(2, 0), 1);
        due("36: no place", x.set(2, 0, 1), -13);
        due("35: missing", x.row(2, -1), 1);
        due("36: missing", x.set(2, 99, 1), -11);
        for (int row : new int[] {-1, 3, Integer.MIN_VALUE, Integer.MAX_VALUE}) {
            due("35: row " + row, x.row(row, 1), BAD);
            due("35: row " + row + ", first", x.row(row, -2), BAD);
            due("36: row " + row, x.set(row, 0, 1), BAD);
            due("37: row " + row, x.get(row, 0), VOID);
        }
    }

    private static void promises38And39() {
        QuaternionNet x = new QuaternionNet();
        due("39: none", x.restore(), STATE);
        x.prime(17);
        x.modulus(7);
        x.put(0, 1, 2, 3, 4);
        x.note(0);
        x.note(0);
        int place = x.walk(9);
        due("38", x.image(), place);
        due("38: DEEDS stay", x.count(5), 1);
        x.prime(29);
        x.modulus(3);
        x.put(0, 9, 9, 9, 9);
        x.put(5, 8, 0, 0, 0);
        x.note(5);
        x.note(0);
        x.strike(1);
        x.walk(3);
        lay(x, 0, 4, 4);
        Checks.read(x, "!", 0);
        x.feed('~');
        due("39", x.restore(), place);
        int[] counts = {17, 7, 18, 336, place, 0, 1, 1, 1, 1};
        for (int i = 0; i < counts.length; i++) due("39: count(" + i + ")", x.count(i), counts[i]);
        isRegister("39", x, 0, 1, 2, 3, 4);
        isRegister("39", x, 5, 0, 0, 0, 0);
        due("39: the book", x.book(0, 3), 4);
        due("39: the book", x.book(0, 4), 2);
        due("39: no DEEDS", x.back(), STATE);
        due("39: rows stay", x.get(0, 1), 4);
        due("39: why stays", x.why(0, 0), 1);
        due("39: walks of the old network", x.walks(12, 0), 6886413925032L);
        x.note(0);
        x.put(0, 0, 0, 0, 0);
        x.walk(2);
        due("39: the same network", x.restore(), place);
        due("39: the image is as it was", x.book(0, 4), 2);
        isRegister("39: once more", x, 0, 1, 2, 3, 4);
        due("39: no DEEDS in the same network", x.count(5), 0);
        x.put(0, 5, 5, 5, 5);
        x.walk(2);
        due("38: another image", x.image(), x.count(4));
        x.put(0, 6, 6, 6, 6);
        x.restore();
        isRegister("38: another image", x, 0, 5, 5, 5, 5);
    }

    private static void promise39OfOne() {
        QuaternionNet x = network(13, 7);
        x.image();
        x.prime(29);
        due("39: p alone is otherwise", x.restore(), 0);
        due("39: its p", x.count(0), 13);
        due("39: its NODES", x.count(3), 336);
        due("39: its walks", x.walks(12, 0), 337892934880L);
        x.modulus(3);
        due("39: q alone is otherwise", x.restore(), 0);
        due("39: its q", x.count(1), 7);
        due("39: its NODES", x.count(3), 336);
        due("39: its RING", x.ring(), 4);
    }

    private static void promise40() {
        QuaternionNet x = network(29, 7);
        x.walk(0);
        x.walk(0);
        x.back();
        x.note(0);
        x.note(1);
        x.feed('(');
        x.feed('(');
        x.read(0);
        for (int i = 0; i < 5; i++) x.feed('(');
        int[] counts = {29, 7, 30, 168, 1, 1, 1, 5, 3, 0};
        for (int i = 0; i < counts.length; i++) due("40: count(" + i + ")", x.count(i), counts[i]);
        for (int what : new int[] {-1, 10, Integer.MIN_VALUE, Integer.MAX_VALUE}) due("40: " + what, x.count(what), BAD);
    }

    private static void constants() {
        due("BAD", QuaternionNet.BAD, -1);
        due("NOT", QuaternionNet.NOT, -2);
        due("FULL", QuaternionNet.FULL, -3);
        due("STATE", QuaternionNet.STATE, -5);
        due("VOID", QuaternionNet.VOID, Long.MIN_VALUE);
    }

    public static void main(String[] args) {
        constants();
        promise1();
        promise2();
        promise3();
        promise4();
        promise5();
        promise6();
        promise7();
        promise8();
        promise9();
        promise10();
        promise11();
        promise12();
        promise13();
        promise14();
        promise15();
        promise16();
        promise17();
        promise18();
        promise19();
        promise20();
        promise21();
        promise21OfTwelve();
        promises22And23();
        promise24();
        promise25();
        promise26();
        promise27();
        promises28To30();
        promises31And32();
        promise33();
        promise33OfFaults();
        promise33OfTroubles();
        promise34();
        promises35To37();
        promises38And39();
        promise39OfOne();
        promise40();
        CHECKS.end();
    }
}
