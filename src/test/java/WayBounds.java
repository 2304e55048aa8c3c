import java.util.ArrayList;
import java.util.HashSet;
import java.util.List;
import java.util.Set;

/** Ways, numbers taken apart, walks gone and gone back, rows of steps, rows of ints: promises 20 to 27, 35 to 37. */
final class WayBounds extends Bounds {
    WayBounds(Sentences doc) {
        super(doc);
    }

    @Override
    void all() {
        doc.term("PLACE is a NODE (0 at first).", this::placeAtFirst);
        doc.term("WAY to a NODE: of all rows of fewest STEPS from NODE 0 the first by numbers of STEPS.", this::firstOfShortestRows);
        doc.term("APART: a RIGHT QUATERNION of which NORM is p to the n (n 0 .. 12), not all PARTS multiples of p: the one row "
            + "of n STEPS of which the product, in this order, is it, or it with all signs changed.", this::rowsApartAgain);
        doc.term("A ROW tells STEPS: ENDS: the NODE where they lead to from PLACE; MEETS: the first place (from 0) behind which "
            + "one is at a NODE again at which one was ahead (PLACE, too); NOT; PRODUCT: of all of them in this order "
            + "(1, 0, 0, 0 of none).", this::longestRow);
        doc.term("DEEDS: what walk() did can be gone BACK, the latest first, 16 at most (then the eldest is none any more).",
            this::sixteenDeeds);
        doc.term("ROWS 0 .. 2 are missing (at first), or hold 0 .. 40 ints:", this::rowsAtFirst);
        doc.term("-11 it is missing,", this::missingRows);
        doc.term("-13 a place outside,", this::placesOutside);
        doc.term("-14 a size below 0.", this::sizesBelow);
        doc.term("ROWS' STEPS: any other number is none there: that is BAD where told, at the first such place nothing is done.",
            this::numbersThatAreNoSteps);
        doc.term("one is APART into none of them also with the other sign.", this::oneApart);
        doc.term("A walk to where one is is a DEED, too.", this::walksToWhereOneWas);
        doc.term("A ROW without places has no place at which it MEETS.", this::rowsWithoutPlaces);

        doc.promise(20, "STEP i (0 on) of the WAY to a NODE; i -1: how many.", this::firstAndLastOfWay);
        doc.promise(20, "BAD: node, i below -1; NOT: there are not so many.", this::noWay);
        doc.promise(21, "STEP i (0 on) of a REGISTER taken APART; i -1: how many.", this::fewestAndMostApart);
        doc.promise(21, "BAD: r, i below -1; STATE: it can't be taken APART; NOT: there are not so many.", this::notApart);
        doc.promise(22, "PLACE becomes the NODE to which a STEP leads: that.", this::walksByFirstAndLast);
        doc.promise(22, "BAD.", this::noWalk);
        doc.promise(23, "The latest of DEEDS is gone BACK: PLACE.", this::backToTheFirst);
        doc.promise(23, "STATE: there is none.", this::noDeed);
        doc.promise(24, "ENDS of a ROW.", this::endsOfRows);
        doc.promise(24, "BAD: row, a STEP that is none; -11.", this::noEnds);
        doc.promise(25, "MEETS of a ROW.", this::meetsAtFirstAndLast);
        doc.promise(25, "BAD: row, a STEP that is none (wherever it stands); -11; NOT.", this::noMeets);
        doc.promise(26, "A REGISTER becomes PRODUCT of a ROW: how many STEPS.", this::productsOfRows);
        doc.promise(26, "BAD: r, row, a STEP that is none (wherever it stands); -11; STATE: a PART would be beyond behind one "
            + "of them.", this::noProduct);
        doc.promise(27, "A ROW becomes the WAY to a NODE: how many STEPS.", this::films);
        doc.promise(27, "BAD.", this::noFilm);
        doc.promise(35, "A ROW holds n ints (0 .. 40), all 0, or is missing (n -1): 1.", this::rowsOfEachSize);
        doc.promise(35, "BAD: row, n above 40; -14: n below -1.", this::noRow);
        doc.promise(36, "Place i of a ROW becomes v: 1.", this::setAtTheEnds);
        doc.promise(36, "BAD; -11; -13.", this::noPlaceToSet);
        doc.promise(37, "Place i of a ROW.", this::getAtTheEnds);
        doc.promise(37, "VOID: no such ROW, missing, no such place.", this::noPlaceToGet);
    }

    // ---- ways

    private static int[] counting(int number, int digits, int base) {
        int[] row = new int[digits];
        for (int i = digits - 1; i >= 0; i--) {
            row[i] = number % base;
            number /= base;
        }
        return row;
    }

    /** Tries all rows in their order, short ones first. */
    private static int[] firstRowTo(int[][] to, int node, int length) {
        for (int number = 0;; number++) {
            int[] row = counting(number, length, to[0].length);
            if (leads(to, 0, row) == node) return row;
        }
    }

    private void isWay(QuaternionNet x, int[][] to, int node, int length) {
        int[] want = firstRowTo(to, node, length);
        due("way(" + node + ", -1)", x.way(node, -1), length);
        for (int i = 0; i < length; i++) due("way(" + node + ", " + i + ")", x.way(node, i), want[i]);
        due("way(" + node + ", " + length + ")", x.way(node, length), NOT);
    }

    private void firstOfShortestRows() {
        for (int[] pq : networks()) {
            int[][] to = table(pq[0], pq[1]);
            int[] far = distances(to, 0);
            QuaternionNet x = of(pq[0], pq[1]);
            for (int n = 0; n < to.length; n++) {
                if (n % 50 == 49) x = of(pq[0], pq[1]);
                isWay(x, to, n, far[n]);
            }
        }
    }

    private void firstAndLastOfWay() {
        QuaternionNet x = of(5, 7);
        due("to NODE 0", x.way(0, -1), 0);
        due("to the last", x.way(335, -1), 6);
        due("its first STEP", x.way(335, 0), firstRowTo(table(5, 7), 335, 6)[0]);
        due("its last STEP", x.way(335, 5), firstRowTo(table(5, 7), 335, 6)[5]);
        due("behind its last", x.way(335, 6), NOT);
        x.walk(3);
        due("from NODE 0, not from PLACE", x.way(335, -1), 6);
    }

    private void noWay() {
        for (int[] pq : networks()) {
            QuaternionNet x = of(pq[0], pq[1]);
            for (int n : new int[] {-1, x.count(3), LEAST, MOST}) {
                for (int i : new int[] {-1, 0, 9}) due("way(" + n + ", " + i + ")", x.way(n, i), BAD);
            }
            int last = x.count(3) - 1;
            for (int n : new int[] {0, 1, last}) {
                for (int i : new int[] {-2, -3, LEAST}) due("way(" + n + ", " + i + ")", x.way(n, i), BAD);
                due("not so many", x.way(n, x.way(n, -1)), NOT);
                due("far from so many", x.way(n, MOST), NOT);
            }
        }
    }

    // ---- apart

    private void isApart(QuaternionNet x, int r, int... want) {
        due("apart(" + r + ", -1)", x.apart(r, -1), want.length);
        for (int i = 0; i < want.length; i++) due("apart(" + r + ", " + i + ")", x.apart(r, i), want[i]);
        due("apart behind the last", x.apart(r, want.length), NOT);
    }

    private void rowsApartAgain() {
        int[][] some = {{5, 3}, {13, 2}, {17, 2}, {29, 1}};
        for (int[] s : some) {
            int steps = s[0] + 1, length = s[1], all = 1;
            for (int i = 0; i < length; i++) all *= steps;
            int[] reverses = reverses(s[0]);
            QuaternionNet x = of(s[0], 3);
            for (int number = 0; number < all; number++) {
                if (number % 20 == 19) x = of(s[0], 3);
                int[] row = counting(number, length, steps);
                lay(x, 0, row);
                x.product(1, 0);
                boolean bare = true;
                for (int i = 1; i < length; i++) if (row[i] == reverses[row[i - 1]]) bare = false;
                if (!bare) {
                    due("all PARTS are multiples of p", x.apart(1, -1), STATE);
                    continue;
                }
                isApart(x, 1, row);
                x.put(2, -(int) x.part(1, 0), -(int) x.part(1, 1), -(int) x.part(1, 2), -(int) x.part(1, 3));
                isApart(x, 2, row);
            }
        }
    }

    private void oneApart() {
        for (int p : PRIMES) {
            QuaternionNet x = of(p, 7);
            x.put(0, 1, 0, 0, 0);
            isApart(x, 0);
            x.put(0, -1, 0, 0, 0);
            isApart(x, 0);
            due("far behind", x.apart(0, MOST), NOT);
        }
    }

    /** The longest row of which the product fits, for p 5 of twelve: a thirteenth has a NORM beyond all REGISTERS'. */
    private void fewestAndMostApart() {
        int[] twelve = {0, 2, 0, 4, 5, 3, 0, 0, 1, 1, 3, 1};
        QuaternionNet x = of(5, 3);
        lay(x, 0, twelve);
        due("product", x.product(5, 0), 12);
        isApart(x, 5, twelve);
        x.put(0, 1, 0, 2, 0);
        isApart(x, 0, 4);
        int[] most = {11, 7, 6, 5};
        for (int i = 1; i < 4; i++) {
            int length = most[i];
            x = of(PRIMES[i], 3);
            x.row(0, length);
            for (int k = 0; k < length; k++) x.set(0, k, k % 2);
            due("product of " + length, x.product(0, 0), length);
            due("apart into " + length, x.apart(0, -1), length);
            due("the last", x.apart(0, length - 1), (length - 1) % 2);
        }
    }

    private void notApart() {
        for (int r : NO_REGISTERS) {
            for (int i : new int[] {-2, -1, 0}) due("register " + r, new QuaternionNet().apart(r, i), BAD);
        }
        int[][] never = {{5, 0, 0, 0, 0}, {5, 5, 0, 0, 0}, {5, -25, 0, 0, 0}, {5, 5, 10, 0, 0}, {5, 0, 1, 0, 0}, {5, 0, 0, 0, -1},
            {5, 2, 1, 0, 0}, {5, 0, 1, 2, 0}, {5, 3, 2, 0, 0}, {5, 1, 2, 2, 0}, {5, 9999, 0, 0, 0}, {5, 1, 1, 1, 1},
            {13, 1, 2, 0, 0}, {13, 13, 0, 0, 0}, {17, 3, 2, 0, 0}, {29, 1, 4, 0, 0}, {29, 29, 0, 0, 0}, {13, 9999, 9998, 9998, 9998}};
        for (int[] w : never) {
            QuaternionNet x = of(w[0], 3);
            x.put(0, w[1], w[2], w[3], w[4]);
            for (int i : new int[] {-1, 0, 12, MOST}) due("it can't be taken APART", x.apart(0, i), STATE);
            for (int i : new int[] {-2, LEAST}) due("BAD is first", x.apart(0, i), BAD);
        }
        QuaternionNet x = with(0, 5, 2, 0, 0);
        due("NORM 29, p 5", x.apart(0, -1), STATE);
        x.prime(29);
        due("NORM 29, p 29", x.apart(0, -1), 1);
        due("a multiple of 5 is none of 29", of29(25, 10, 0, 0).apart(0, -1), STATE);
        due("some PARTS are multiples of p", with(0, 5, 0, 0, 10).apart(0, -1), STATE);
        due("some PARTS are multiples of p", with(0, 5, 8, 6, 0).apart(0, -1), 3);
    }

    private static QuaternionNet of29(int a, int b, int c, int d) {
        QuaternionNet x = of(29, 3);
        x.put(0, a, b, c, d);
        return x;
    }

    // ---- walks

    private void placeAtFirst() {
        due("count(4)", new QuaternionNet().count(4), 0);
        due("image()", new QuaternionNet().image(), 0);
        QuaternionNet x = new QuaternionNet();
        x.row(0, 0);
        due("ends of no STEPS", x.ends(0), 0);
    }

    private void sixteenDeeds() {
        for (int walks : new int[] {0, 1, 15, 16, 17, 18, 40, 200}) {
            QuaternionNet x = of(5, 7);
            int[] places = new int[walks + 1];
            for (int i = 1; i <= walks; i++) places[i] = x.walk(i * i % 6);
            int deeds = Math.min(walks, 16);
            due("DEEDS of " + walks, x.count(5), deeds);
            for (int k = 1; k <= deeds; k++) {
                due("back " + k + " of " + walks, x.back(), places[walks - k]);
                due("DEEDS", x.count(5), deeds - k);
            }
            due("none any more", x.back(), STATE);
            due("PLACE stays", x.count(4), places[walks - deeds]);
            x.walk(0);
            due("one anew", x.count(5), 1);
            due("one anew", x.back(), places[walks - deeds]);
        }
    }

    /** No STEP leads to where one is, with these p and q; but back and forth to where one was. */
    private void walksToWhereOneWas() {
        for (int[] pq : networks()) {
            int[][] to = table(pq[0], pq[1]);
            int loops = 0;
            for (int n = 0; n < to.length; n++) for (int next : to[n]) if (next == n) loops++;
            due("STEPS that lead to where one is", loops, 0);
        }
        QuaternionNet x = new QuaternionNet();
        for (int k = 1; k <= 7; k++) {
            due("forth", x.walk(0), 1);
            due("and back", x.walk(5), 0);
            due("DEEDS", x.count(5), 2 * k);
        }
        due("gone BACK", x.back(), 1);
    }

    private void walksByFirstAndLast() {
        for (int[] pq : networks()) {
            int[][] to = table(pq[0], pq[1]);
            QuaternionNet x = of(pq[0], pq[1]);
            int place = 0;
            for (int s : new int[] {0, pq[0], 0, 1, pq[0] - 1}) {
                place = to[place][s];
                due("walk(" + s + ")", x.walk(s), place);
                due("PLACE", x.count(4), place);
            }
        }
    }

    private void noWalk() {
        for (int[] pq : networks()) {
            QuaternionNet x = of(pq[0], pq[1]);
            int place = x.walk(1);
            for (int s : new int[] {-1, pq[0] + 1, LEAST, MOST}) due("walk(" + s + ")", x.walk(s), BAD);
            due("PLACE", x.count(4), place);
            due("DEEDS", x.count(5), 1);
            due("gone BACK", x.back(), 0);
        }
    }

    private void backToTheFirst() {
        QuaternionNet x = of(5, 7);
        int one = x.walk(0), two = x.walk(0);
        x.walk(1);
        due("back", x.back(), two);
        due("PLACE", x.count(4), two);
        due("back", x.back(), one);
        int other = x.walk(4);
        due("back behind another", x.back(), one);
        due("they are two", other == two ? 1 : 0, 0);
        due("back to the first", x.back(), 0);
        due("PLACE", x.count(4), 0);
    }

    private void noDeed() {
        QuaternionNet x = new QuaternionNet();
        due("at first", x.back(), STATE);
        x.walk(2);
        x.back();
        due("all gone", x.back(), STATE);
        due("still", x.back(), STATE);
        due("PLACE stays", x.count(4), 0);
        due("DEEDS", x.count(5), 0);
    }

    // ---- rows of steps

    private void longestRow() {
        int[][] to = table(29, 7);
        QuaternionNet x = of(29, 7);
        x.row(2, 40);
        int[] steps = new int[40];
        for (int i = 0; i < 40; i++) {
            steps[i] = i * 7 % 30;
            x.set(2, i, steps[i]);
        }
        int place = x.walk(29);
        due("ends", x.ends(2), leads(to, place, steps));
        due("meets", x.meets(2), meeting(to, place, steps));
        due("product", x.product(0, 2), STATE);
        due("PLACE stays", x.count(4), place);
        due("DEEDS stay", x.count(5), 1);
        x.row(2, 0);
        due("product of none", x.product(0, 2), 0);
        isRegister(x, 0, 1, 0, 0, 0);
    }

    private static int meeting(int[][] to, int place, int... steps) {
        Set<Integer> seen = new HashSet<>(List.of(place));
        int at = place;
        for (int i = 0; i < steps.length; i++) {
            at = to[at][steps[i]];
            if (!seen.add(at)) return i;
        }
        return NOT;
    }

    private void endsOfRows() {
        int[][] to = table(13, 7);
        QuaternionNet x = of(13, 7);
        lay(x, 0, 13);
        due("one STEP, the last", x.ends(0), to[0][13]);
        lay(x, 0, 0);
        due("one STEP, the first", x.ends(0), to[0][0]);
        int place = x.walk(6);
        due("from PLACE", x.ends(0), to[place][0]);
        lay(x, 1, 3, 3, 9, 13);
        due("four", x.ends(1), leads(to, place, 3, 3, 9, 13));
        x.back();
        due("from PLACE gone BACK to", x.ends(1), leads(to, 0, 3, 3, 9, 13));
        lay(x, 2);
        due("none", x.ends(2), 0);
    }

    private void noEnds() {
        QuaternionNet x = new QuaternionNet();
        for (int row = 0; row < 3; row++) due("missing", x.ends(row), -11);
        for (int row : NO_ROWS) due("row " + row, x.ends(row), BAD);
        for (int no : new int[] {-1, 6, LEAST, MOST}) {
            lay(x, 0, no, 0, 0);
            due("first is " + no, x.ends(0), BAD);
            lay(x, 0, 0, 0, no);
            due("last is " + no, x.ends(0), BAD);
            lay(x, 0, no);
            due("the only one is " + no, x.ends(0), BAD);
        }
        x.row(0, -1);
        due("missing again", x.ends(0), -11);
    }

    /** A row of so many steps from node 0 that comes to no node twice. */
    private static List<Integer> wandering(int[][] to, int at, Set<Integer> seen, int steps) {
        if (steps == 0) return new ArrayList<>();
        for (int s = 0; s < to[at].length; s++) {
            int next = to[at][s];
            if (!seen.add(next)) continue;
            List<Integer> rest = wandering(to, next, seen, steps - 1);
            if (rest != null) {
                rest.add(0, s);
                return rest;
            }
            seen.remove(next);
        }
        return null;
    }

    private void meetsAtFirstAndLast() {
        int[][] to = table(5, 7);
        int[] reverses = reverses(5);
        List<Integer> forty = wandering(to, 0, new HashSet<>(Set.of(0)), 40);
        QuaternionNet x = of(5, 7);
        x.row(0, 40);
        for (int i = 0; i < 40; i++) x.set(0, i, forty.get(i));
        due("forty never meet", x.meets(0), NOT);
        x.set(0, 39, reverses[forty.get(38)]);
        due("at the last place", x.meets(0), 39);
        x.set(0, 1, reverses[forty.get(0)]);
        due("at PLACE, and it is the first", x.meets(0), 1);
        lay(x, 1, 2, 3);
        due("PLACE, too", x.meets(1), 1);
        x.walk(2);
        due("from elsewhere", x.meets(1), 1);
        lay(x, 1, 3, 1, 4);
        due("one may come by NODE 0 once", x.meets(1), 2);
        lay(x, 1, 3);
        due("NODE 0 was not ahead", x.meets(1), NOT);
        due("asked once more", x.meets(1), NOT);
        // from each NODE alike, also behind more DEEDS than there are NODES
        for (int[] pq : networks()) {
            x = of(pq[0], pq[1]);
            int[] row = {0, 1, 2, 3, 4, 5, 0, 1, 2, 3, 4, 5};
            lay(x, 0, row);
            int place = 0;
            for (int walked = 0; walked < 20; walked++) {
                due("from " + place, x.meets(0), meeting(table(pq[0], pq[1]), place, row));
                place = x.walk(walked % 5);
            }
        }
    }

    private void rowsWithoutPlaces() {
        QuaternionNet x = new QuaternionNet();
        for (int row = 0; row < 3; row++) {
            x.row(row, 0);
            due("row " + row, x.meets(row), NOT);
        }
    }

    private void noMeets() {
        QuaternionNet x = new QuaternionNet();
        for (int row = 0; row < 3; row++) due("missing", x.meets(row), -11);
        for (int row : NO_ROWS) due("row " + row, x.meets(row), BAD);
        for (int no : new int[] {-1, 6, LEAST, MOST}) {
            lay(x, 0, no, 0, 5, 0);
            due("first is " + no, x.meets(0), BAD);
            lay(x, 0, 0, 5, 0, no);
            due("behind where it meets: " + no, x.meets(0), BAD);
        }
        lay(x, 0, 0, 0);
        due("NOT", x.meets(0), NOT);
    }

    /** Of so many STEPS any product fits, of one more none does: p to the n is below 9999 times 9999, or above four times it. */
    private void productsOfRows() {
        int[] most = {11, 7, 6, 5};
        for (int i = 0; i < 4; i++) {
            QuaternionNet x = of(PRIMES[i], 3);
            for (int s = 0; s <= PRIMES[i]; s += PRIMES[i]) {
                x.row(0, most[i]);
                for (int k = 0; k < most[i]; k++) x.set(0, k, s);
                due("p " + PRIMES[i] + ", " + most[i], x.product(5, 0), most[i]);
                due("its NORM", x.norm(5), Math.round(Math.pow(PRIMES[i], most[i])));
            }
            x.row(0, i == 0 ? 13 : most[i] + 1);
            due("one more", x.product(5, 0), STATE);
            due("it is as it was", x.norm(5), Math.round(Math.pow(PRIMES[i], most[i])));
        }
        QuaternionNet x = new QuaternionNet();
        lay(x, 1, 0, 1);
        x.walk(3);
        due("in this order", x.product(0, 1), 2);
        isRegister(x, 0, 1, -2, -2, 4);
        lay(x, 1, 1, 0);
        due("the other way round", x.product(0, 1), 2);
        isRegister(x, 0, 1, -2, -2, -4);
        lay(x, 1);
        due("of none", x.product(0, 1), 0);
        isRegister(x, 0, 1, 0, 0, 0);
        due("PLACE stays", x.count(4), 4);
    }

    private void noProduct() {
        QuaternionNet x = with(3, 9, 9, 9, 9);
        for (int row = 0; row < 3; row++) due("missing", x.product(3, row), -11);
        for (int row : NO_ROWS) due("row " + row, x.product(3, row), BAD);
        for (int r : NO_REGISTERS) {
            due("BAD is ahead of -11", x.product(r, 0), BAD);
            due("register and row", x.product(r, 3), BAD);
        }
        for (int no : new int[] {-1, 6, LEAST, MOST}) {
            lay(x, 0, no, 0);
            due("first is " + no, x.product(3, 0), BAD);
            lay(x, 0, 0, no);
            due("last is " + no, x.product(3, 0), BAD);
        }
        x.row(0, 40);
        due("beyond", x.product(3, 0), STATE);
        x.set(0, 39, 6);
        due("no STEP behind what is beyond", x.product(3, 0), BAD);
        x.row(0, 12);
        due("beyond behind the last", x.product(3, 0), STATE);
        for (int r : NO_REGISTERS) due("BAD is ahead of STATE", x.product(r, 0), BAD);
        isRegister(x, 3, 9, 9, 9, 9);
    }

    private void numbersThatAreNoSteps() {
        for (int p : PRIMES) {
            QuaternionNet x = of(p, 3);
            x.put(0, 8, 8, 8, 8);
            lay(x, 0, 0, p, p);
            due("the last STEP is one", x.ends(0), leads(table(p, 3), 0, 0, p, p));
            for (int no : new int[] {-1, p + 1, 30 + (1 << 8), LEAST, MOST}) {
                lay(x, 0, 0, no, p);
                due("ends", x.ends(0), BAD);
                due("meets", x.meets(0), BAD);
                due("product", x.product(0, 0), BAD);
                isRow(x, 0, 0, no, p);
            }
            isRegister(x, 0, 8, 8, 8, 8);
            due("PLACE", x.count(4), 0);
        }
        QuaternionNet x = of(29, 3);
        lay(x, 0, 29);
        due("a STEP of 29", x.ends(0), table(29, 3)[0][29]);
        x.prime(17);
        due("is none of 17", x.ends(0), BAD);
        due("is none of 17", x.meets(0), BAD);
        due("is none of 17", x.product(0, 0), BAD);
    }

    private void films() {
        QuaternionNet x = of(5, 7);
        int[] want = firstRowTo(table(5, 7), 335, 6);
        x.row(1, 40);
        due("onto a longer one", x.film(1, 335), 6);
        isRow(x, 1, want);
        x.walk(4);
        due("from NODE 0, not from PLACE", x.film(0, 335), 6);
        isRow(x, 0, want);
        due("to NODE 0", x.film(1, 0), 0);
        isRow(x, 1);
        due("it is not missing", x.meets(1), NOT);
        due("one STEP", x.film(2, 6), 1);
        isRow(x, 2, 5);
        due("none outside", x.set(2, 1, 0), -13);
    }

    private void noFilm() {
        for (int[] pq : networks()) {
            QuaternionNet x = of(pq[0], pq[1]);
            lay(x, 0, 3, 2, 1);
            for (int n : new int[] {-1, x.count(3), LEAST, MOST}) {
                due("film(0, " + n + ")", x.film(0, n), BAD);
                due("film(1, " + n + ")", x.film(1, n), BAD);
            }
            for (int row : NO_ROWS) due("film(" + row + ", 0)", x.film(row, 0), BAD);
            isRow(x, 0, 3, 2, 1);
            due("still missing", x.ends(1), -11);
        }
    }

    // ---- rows of ints

    private void rowsAtFirst() {
        QuaternionNet x = new QuaternionNet();
        for (int row = 0; row < 3; row++) {
            due("missing", x.set(row, 0, 1), -11);
            due("missing", x.get(row, 0), VOID);
            due("missing", x.ends(row), -11);
        }
        for (int row = 0; row < 3; row++) {
            due("the most", x.row(row, 40), 1);
            due("its last", x.get(row, 39), 0);
            due("behind it", x.get(row, 40), VOID);
        }
        for (int row : NO_ROWS) due("row " + row, x.row(row, 1), BAD);
    }

    private void missingRows() {
        QuaternionNet x = new QuaternionNet();
        x.row(1, 2);
        due("row 1 is there", x.ends(1), leads(table(5, 3), 0, 0, 0));
        x.row(1, -1);
        due("ends", x.ends(1), -11);
        due("meets", x.meets(1), -11);
        due("product", x.product(0, 1), -11);
        due("set", x.set(1, 0, 0), -11);
        isRegister(x, 0, 0, 0, 0, 0);
    }

    private void placesOutside() {
        QuaternionNet x = new QuaternionNet();
        for (int n : new int[] {0, 1, 40}) {
            x.row(0, n);
            for (int i : new int[] {-1, n, n + 1, LEAST, MOST}) due("place " + i + " of " + n, x.set(0, i, 7), -13);
        }
    }

    private void sizesBelow() {
        QuaternionNet x = new QuaternionNet();
        lay(x, 0, 7, 8);
        for (int n : new int[] {-2, -3, -40, LEAST}) due("size " + n, x.row(0, n), -14);
        isRow(x, 0, 7, 8);
    }

    private void rowsOfEachSize() {
        QuaternionNet x = new QuaternionNet();
        for (int n : new int[] {40, 39, 1, 0, 40}) {
            due("row of " + n, x.row(2, n), 1);
            int[] noughts = new int[n];
            isRow(x, 2, noughts);
            for (int i = 0; i < n; i++) x.set(2, i, 9);
        }
        due("missing", x.row(2, -1), 1);
        due("missing", x.get(2, 0), VOID);
        due("missing", x.row(2, -1), 1);
        due("there again", x.row(2, 40), 1);
        isRow(x, 2, new int[40]);
    }

    private void noRow() {
        QuaternionNet x = new QuaternionNet();
        lay(x, 2, 7, 8);
        for (int n : new int[] {41, 42, MOST}) due("n " + n, x.row(2, n), BAD);
        for (int n : new int[] {-2, LEAST}) due("n " + n, x.row(2, n), -14);
        for (int row : NO_ROWS) {
            for (int n : new int[] {LEAST, -2, -1, 0, 40, 41}) due("row(" + row + ", " + n + ")", x.row(row, n), BAD);
        }
        isRow(x, 2, 7, 8);
    }

    private void setAtTheEnds() {
        QuaternionNet x = new QuaternionNet();
        x.row(2, 40);
        due("the first", x.set(2, 0, LEAST), 1);
        due("the last", x.set(2, 39, MOST), 1);
        due("the first", x.get(2, 0), LEAST);
        due("the last", x.get(2, 39), MOST);
        due("anew", x.set(2, 0, -1), 1);
        due("anew", x.get(2, 0), -1);
        due("the others stay", x.get(2, 1), 0);
        x.row(0, 1);
        due("of one", x.set(0, 0, 5), 1);
        due("other ROWS stay", x.get(2, 0), -1);
    }

    private void noPlaceToSet() {
        QuaternionNet x = new QuaternionNet();
        lay(x, 0, 4);
        for (int row : NO_ROWS) {
            for (int i : new int[] {-1, 0, 40}) due("set(" + row + ", " + i + ")", x.set(row, i, 1), BAD);
        }
        for (int i : new int[] {LEAST, -1, 0, 40, MOST}) due("missing, place " + i, x.set(1, i, 1), -11);
        for (int i : new int[] {LEAST, -1, 1, 40, MOST}) due("outside, place " + i, x.set(0, i, 1), -13);
        isRow(x, 0, 4);
    }

    private void getAtTheEnds() {
        QuaternionNet x = new QuaternionNet();
        lay(x, 0, LEAST, 0, MOST);
        due("the first", x.get(0, 0), LEAST);
        due("the last", x.get(0, 2), MOST);
        x.film(0, 0);
        due("nothing of it is there", x.get(0, 0), VOID);
    }

    private void noPlaceToGet() {
        QuaternionNet x = new QuaternionNet();
        lay(x, 0, 4, 5);
        x.row(1, 0);
        for (int row : NO_ROWS) due("row " + row, x.get(row, 0), VOID);
        for (int i : new int[] {LEAST, -1, 2, 40, MOST}) due("place " + i, x.get(0, i), VOID);
        for (int i : new int[] {LEAST, -1, 0, 1, MOST}) due("no place, " + i, x.get(1, i), VOID);
        for (int i : new int[] {LEAST, -1, 0, 1, MOST}) due("missing, " + i, x.get(2, i), VOID);
    }
}
