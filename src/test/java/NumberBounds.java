/** Quaternions and the registers: promises 2 to 7. */
final class NumberBounds extends Bounds {
    NumberBounds(Sentences doc) {
        super(doc);
    }

    @Override
    void all() {
        doc.term("The product of (a, b, c, d) and (e, f, g, h): a e - b f - c g - d h; a f + b e + c h - d g; "
            + "a g - b h + c e + d f; a h + b g - c f + d e.", this::productOfEachTwoParts);
        doc.term("CONJUGATE: a, -b, -c, -d.", this::conjugate);
        doc.term("NORM: the squares of all four together.", this::norms);
        doc.term("REGISTERS 0 .. 5 hold one each (0, 0, 0, 0 at first), with PARTS -9999 .. 9999.", this::sixRegisters);
        doc.term("It is RIGHT, if a is odd and b, c, d are even.", this::rightOnes);
        doc.term("product(), times(), sum(), read() lay their answer to a REGISTER only if all its PARTS may be;",
            this::onlyIfAllPartsMayBe);

        doc.promise(2, "A REGISTER holds a, b, c, d: 1.", this::putAtTheEnds);
        doc.promise(2, "BAD.", this::putBeyond);
        doc.promise(3, "PART i (0 .. 3) of a REGISTER.", this::firstAndLastPart);
        doc.promise(3, "VOID: BAD.", this::noPart);
        doc.promise(4, "NORM of a REGISTER.", this::leastAndGreatestNorm);
        doc.promise(4, "VOID: BAD.", this::noNorm);
        doc.promise(5, "REGISTER r becomes the product of s and t: 1.", this::productsOntoThemselves);
        doc.promise(5, "BAD; STATE: a PART would be beyond.", this::productsBeyond);
        doc.promise(6, "REGISTER r becomes s and t together (sign 0), s less t (1): 1.", this::sumsAtTheEnds);
        doc.promise(6, "BAD; STATE likewise.", this::sumsBeyond);
        doc.promise(7, "A REGISTER becomes its CONJUGATE: whether it is RIGHT (1, 0).", this::flips);
        doc.promise(7, "BAD.", this::flipsOfNone);
    }

    private static int[] unit(int part, int size) {
        int[] unit = new int[4];
        unit[part] = size;
        return unit;
    }

    private void productOfEachTwoParts() {
        // which part a product of two parts comes to, and with which sign
        int[][] part = {{0, 1, 2, 3}, {1, 0, 3, 2}, {2, 3, 0, 1}, {3, 2, 1, 0}};
        int[][] sign = {{1, 1, 1, 1}, {1, -1, 1, -1}, {1, -1, -1, 1}, {1, 1, -1, -1}};
        for (int i = 0; i < 4; i++) {
            for (int k = 0; k < 4; k++) {
                QuaternionNet x = new QuaternionNet();
                int[] one = unit(i, 3), other = unit(k, 5);
                x.put(0, one[0], one[1], one[2], one[3]);
                x.put(1, other[0], other[1], other[2], other[3]);
                due("times", x.times(2, 0, 1), 1);
                int[] want = unit(part[i][k], 15 * sign[i][k]);
                isRegister(x, 2, want[0], want[1], want[2], want[3]);
            }
        }
    }

    private void conjugate() {
        QuaternionNet x = with(0, 9999, 9999, -9999, 0);
        x.flip(0);
        isRegister(x, 0, 9999, -9999, 9999, 0);
        x = with(0, -9999, 0, 0, -1);
        x.flip(0);
        isRegister(x, 0, -9999, 0, 0, 1);
    }

    private void norms() {
        for (int i = 0; i < 4; i++) {
            int[] unit = unit(i, -9999);
            due("one part", with(0, unit[0], unit[1], unit[2], unit[3]).norm(0), 99980001);
        }
    }

    private void sixRegisters() {
        QuaternionNet x = new QuaternionNet();
        for (int r = 0; r < 6; r++) isRegister(x, r, 0, 0, 0, 0);
        for (int r = 0; r < 6; r++) due("put", x.put(r, r, -9999, 9999, 0), 1);
        for (int r = 0; r < 6; r++) isRegister(x, r, r, -9999, 9999, 0);
        for (int r : NO_REGISTERS) due("register " + r, x.part(r, 0), VOID);
    }

    private void rightOnes() {
        int[][] right = {{1, 0, 0, 0}, {-1, 0, 0, 0}, {9999, -9998, 9998, 2}, {-9999, 0, -2, 0}};
        int[][] wrong = {{0, 0, 0, 0}, {2, 0, 0, 0}, {-9998, 0, 0, 0}, {1, 1, 0, 0}, {1, 0, -1, 0}, {1, 0, 0, 9999}, {0, 1, 1, 1}};
        for (int[] x : right) due("right", with(0, x[0], x[1], x[2], x[3]).flip(0), 1);
        for (int[] x : wrong) due("not right", with(0, x[0], x[1], x[2], x[3]).flip(0), 0);
    }

    private void onlyIfAllPartsMayBe() {
        for (int i = 0; i < 4; i++) {
            int[] most = unit(i, 9999), one = unit(i, 1);
            QuaternionNet x = with(5, 7, 7, 7, 7);
            x.put(0, most[0], most[1], most[2], most[3]);
            x.put(1, one[0], one[1], one[2], one[3]);
            x.put(2, 2, 0, 0, 0);
            due("sum", x.sum(5, 0, 1, 0), STATE);
            due("times", x.times(5, 0, 2), STATE);
            due("read", Checks.read(x, "r0+r1", 5), STATE);
            x.row(0, 12);
            for (int k = 0; k < 12; k++) x.set(0, k, i == 0 ? 0 : 3 - i);
            due("product", x.product(5, 0), STATE);
            isRegister(x, 5, 7, 7, 7, 7);
            due("sum back", x.sum(5, 0, 1, 1), 1);
        }
    }

    private void putAtTheEnds() {
        QuaternionNet x = new QuaternionNet();
        due("the least", x.put(0, -9999, -9999, -9999, -9999), 1);
        isRegister(x, 0, -9999, -9999, -9999, -9999);
        due("the greatest", x.put(5, 9999, 9999, 9999, 9999), 1);
        isRegister(x, 5, 9999, 9999, 9999, 9999);
        due("nothing", x.put(5, 0, 0, 0, 0), 1);
        isRegister(x, 5, 0, 0, 0, 0);
    }

    private void putBeyond() {
        for (int part : new int[] {10000, -10000, LEAST, MOST, 65536, 1 << 30}) {
            QuaternionNet x = with(3, 1, 2, 3, 4);
            due("a " + part, x.put(3, part, 0, 0, 0), BAD);
            due("b " + part, x.put(3, 0, part, 0, 0), BAD);
            due("c " + part, x.put(3, 0, 0, part, 0), BAD);
            due("d " + part, x.put(3, 0, 0, 0, part), BAD);
            isRegister(x, 3, 1, 2, 3, 4);
        }
        for (int r : NO_REGISTERS) due("r " + r, new QuaternionNet().put(r, 0, 0, 0, 0), BAD);
    }

    private void firstAndLastPart() {
        QuaternionNet x = with(5, -9999, 1, -1, 9999);
        due("the first", x.part(5, 0), -9999);
        due("the second", x.part(5, 1), 1);
        due("the third", x.part(5, 2), -1);
        due("the last", x.part(5, 3), 9999);
    }

    private void noPart() {
        QuaternionNet x = with(0, 1, 2, 3, 4);
        for (int i : new int[] {-1, 4, 5, LEAST, MOST}) due("part " + i, x.part(0, i), VOID);
        for (int r : NO_REGISTERS) due("register " + r, x.part(r, 0), VOID);
    }

    private void leastAndGreatestNorm() {
        due("nothing", new QuaternionNet().norm(0), 0);
        due("the greatest", with(5, -9999, 9999, -9999, 9999).norm(5), 399920004);
    }

    private void noNorm() {
        for (int r : NO_REGISTERS) due("register " + r, new QuaternionNet().norm(r), VOID);
    }

    private void productsOntoThemselves() {
        QuaternionNet x = with(0, 1, 2, 3, 4);
        x.put(1, 5, 6, 7, 8);
        due("onto s", x.times(0, 0, 1), 1);
        isRegister(x, 0, -60, 12, 30, 24);
        x.put(0, 1, 2, 3, 4);
        due("onto t", x.times(1, 0, 1), 1);
        isRegister(x, 1, -60, 12, 30, 24);
        due("onto both", x.times(0, 0, 0), 1);
        isRegister(x, 0, -28, 4, 6, 8);
        due("with nothing", x.times(5, 0, 4), 1);
        isRegister(x, 5, 0, 0, 0, 0);
    }

    private void productsBeyond() {
        for (int r : NO_REGISTERS) {
            due("r " + r, new QuaternionNet().times(r, 0, 0), BAD);
            due("s " + r, new QuaternionNet().times(0, r, 0), BAD);
            due("t " + r, new QuaternionNet().times(0, 0, r), BAD);
        }
        for (int i = 0; i < 4; i++) {
            int[] most = unit(i, 3333), least = unit(i, -3333), beyond = unit(i, 5000);
            QuaternionNet x = with(0, 3, 0, 0, 0);
            x.put(1, most[0], most[1], most[2], most[3]);
            due("9999", x.times(4, 0, 1), 1);
            due("9999", x.part(4, i), 9999);
            x.put(1, least[0], least[1], least[2], least[3]);
            due("-9999", x.times(4, 0, 1), 1);
            due("-9999", x.part(4, i), -9999);
            x.put(0, 2, 0, 0, 0);
            x.put(1, beyond[0], beyond[1], beyond[2], beyond[3]);
            due("10000", x.times(4, 0, 1), STATE);
            x.put(0, -2, 0, 0, 0);
            due("-10000", x.times(4, 0, 1), STATE);
            due("it is as it was", x.part(4, i), -9999);
        }
        QuaternionNet x = with(0, 9999, 9999, 9999, 9999);
        due("the greatest of all", x.times(1, 0, 0), STATE);
        x.put(1, -9999, 9999, 9999, 9999);
        due("the least of all", x.times(1, 0, 1), STATE);
        due("BAD is first", x.times(0, 0, 6), BAD);
    }

    private void sumsAtTheEnds() {
        QuaternionNet x = with(0, 9998, -9998, 0, 4000);
        x.put(1, 1, -1, 0, 5999);
        due("together", x.sum(2, 0, 1, 0), 1);
        isRegister(x, 2, 9999, -9999, 0, 9999);
        due("less", x.sum(3, 2, 1, 1), 1);
        isRegister(x, 3, 9998, -9998, 0, 4000);
        due("onto both, together", x.sum(3, 3, 3, 0), STATE);
        due("onto both, less", x.sum(3, 3, 3, 1), 1);
        isRegister(x, 3, 0, 0, 0, 0);
    }

    private void sumsBeyond() {
        for (int r : NO_REGISTERS) {
            due("r " + r, new QuaternionNet().sum(r, 0, 0, 0), BAD);
            due("s " + r, new QuaternionNet().sum(0, r, 0, 0), BAD);
            due("t " + r, new QuaternionNet().sum(0, 0, r, 0), BAD);
        }
        for (int sign : new int[] {-1, 2, LEAST, MOST}) due("sign " + sign, new QuaternionNet().sum(0, 0, 0, sign), BAD);
        for (int i = 0; i < 4; i++) {
            int[] most = unit(i, 9999), least = unit(i, -9999), one = unit(i, 1);
            QuaternionNet x = with(0, most[0], most[1], most[2], most[3]);
            x.put(1, least[0], least[1], least[2], least[3]);
            x.put(2, one[0], one[1], one[2], one[3]);
            due("10000", x.sum(3, 0, 2, 0), STATE);
            due("-10000", x.sum(3, 1, 2, 1), STATE);
            due("19998", x.sum(3, 0, 1, 1), STATE);
            due("-19998", x.sum(3, 1, 0, 1), STATE);
            isRegister(x, 3, 0, 0, 0, 0);
            due("0", x.sum(3, 0, 1, 0), 1);
            isRegister(x, 3, 0, 0, 0, 0);
        }
        QuaternionNet x = with(0, 9999, 0, 0, 0);
        due("BAD is first", x.sum(0, 0, 0, 2), BAD);
    }

    private void flips() {
        QuaternionNet x = with(5, 9999, -9998, 0, 9998);
        due("right", x.flip(5), 1);
        isRegister(x, 5, 9999, 9998, 0, -9998);
        due("and back", x.flip(5), 1);
        isRegister(x, 5, 9999, -9998, 0, 9998);
        due("nothing", x.flip(0), 0);
        isRegister(x, 0, 0, 0, 0, 0);
    }

    private void flipsOfNone() {
        for (int r : NO_REGISTERS) due("register " + r, new QuaternionNet().flip(r), BAD);
    }
}
