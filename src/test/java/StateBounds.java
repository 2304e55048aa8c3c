import java.util.ArrayList;
import java.util.List;
import java.util.function.ToLongFunction;

/** A new object, the image, what is made anew and what stays, refusals that change nothing: promises 1, 38 to 40. */
final class StateBounds extends Bounds {
    StateBounds(Sentences doc) {
        super(doc);
    }

    @Override
    void all() {
        doc.term("prime(), modulus(), restore() leave none (where they are not refused, and something is otherwise by the first "
            + "two).", this::whatLeavesDeeds);
        doc.term("THE IMAGE: p, q, PLACE, REGISTERS, THE BOOK.", this::whatTheImageHolds);
        doc.term("ANSWERS that are refusals (nothing changes but where it is told), of several the first as the call's words "
            + "name them:", this::refusalsChangeNothing);
        doc.term("BAD (-1): no such one, a number out of its range.", () -> due("BAD", QuaternionNet.BAD, -1));
        doc.term("NOT (-2): there is none.", () -> due("NOT", QuaternionNet.NOT, -2));
        doc.term("FULL (-3).", () -> due("FULL", QuaternionNet.FULL, -3));
        doc.term("STATE (-5): as told.", () -> due("STATE", QuaternionNet.STATE, -5));
        doc.term("VOID: the least long.", () -> due("VOID", QuaternionNet.VOID, -9223372036854775807L - 1));
        doc.term("prime(), modulus() make THE NETWORK anew, PLACE 0, if something is otherwise; REGISTERS, THE BOOK, ROWS stay.",
            this::whatIsMadeAnew);
        doc.term("restore() leaves ROWS, THE TAPE, WHY.", this::whatRestoreLeaves);
        doc.term("prime() and modulus() by what is so already leave all as it is.", this::whatIsSoAlready);

        doc.promise(1, "p 5, q 3, PLACE 0.", this::newObjects);
        doc.promise(38, "THE IMAGE is taken: PLACE.", this::images);
        doc.promise(39, "All is as THE IMAGE: PLACE.", this::restoredTwice);
        doc.promise(39, "STATE: there is none.", this::noImage);
        doc.promise(40, "0 p, 1 q, 2 STEPS, 3 NODES, 4 PLACE, 5 DEEDS, 6 how many are in THE BOOK, 7 bytes of THE TAPE, 8 "
            + "TROUBLES of WHY, 9 whether there are SIDES (1, 0).", this::counts);
        doc.promise(40, "BAD.", this::noCount);
    }

    // ---- an object with something in every place, and everything that can be seen of it

    /** p 5, q 7; row 0 with a number that is no step, row 1 missing, row 2 too long for its product; all else full. */
    private static QuaternionNet full() {
        QuaternionNet x = of(5, 7);
        for (int k = 1; k <= 7; k++) {
            x.put(5, k, 0, -k, 0);
            x.note(5);
        }
        x.put(0, 1, 2, 3, 4);
        x.put(1, 9999, 0, 0, 0);
        x.walk(1);
        x.image();
        x.put(2, 2, 0, 0, 0);
        x.put(3, 7, 0, 0, 0);
        x.put(4, 5, 8, 6, 0);
        for (int k = 0; k < 18; k++) x.walk(k % 4);
        lay(x, 0, 0, 6, 1);
        x.row(2, 14);
        Checks.read(x, "((g9", 0);
        for (int k = 0; k < 78; k++) x.feed('~');
        feed(x, "r4");
        return x;
    }

    private static void look(QuaternionNet x, List<Long> seen) {
        for (int what = 0; what < 10; what++) seen.add((long) x.count(what));
        for (int i = 0; i < 24; i++) seen.add(x.part(i / 4, i % 4));
        for (int i = 0; i < 35; i++) seen.add(x.book(i / 5, i % 5));
    }

    /** All that can be seen of an object, and then of what it does: where it goes back, what it reads, its image. */
    private static List<Long> everything(QuaternionNet x) {
        List<Long> seen = new ArrayList<>();
        look(x, seen);
        for (int i = 0; i < 45; i++) seen.add(x.get(i / 15, i % 15));
        for (int row = 0; row < 3; row++) seen.add((long) x.ends(row));
        for (int i = 0; i < 6; i++) seen.add((long) x.why(i / 2, i % 2));
        seen.add((long) x.to(0, 5));
        seen.add(x.walks(6, 1));
        for (int k = 0; k < 17; k++) seen.add((long) x.back());
        seen.add((long) x.read(5));
        seen.add((long) x.restore());
        seen.add(x.part(5, 1));
        look(x, seen);
        return seen;
    }

    private void leavesAll(String call, ToLongFunction<QuaternionNet> made, long want) {
        QuaternionNet x = full();
        due(call, made.applyAsLong(x), want);
        due(call + " leaves all as it is", everything(x).equals(everything(full())) ? 1 : 0, 1);
    }

    // ---- refusals

    private void refusalsChangeNothing() {
        refusalsOfNumbers();
        refusalsOfTheNetwork();
        refusalsOfWays();
        refusalsOfRows();
        refusalsOfTheRest();
        refusalsOfOtherNetworks();
    }

    private void refusalsOfNumbers() {
        leavesAll("put(6, ..)", x -> x.put(6, 1, 1, 1, 1), BAD);
        leavesAll("put(0, 0, 0, 0, 10000)", x -> x.put(0, 0, 0, 0, 10000), BAD);
        leavesAll("part(6, 0)", x -> x.part(6, 0), VOID);
        leavesAll("part(0, 4)", x -> x.part(0, 4), VOID);
        leavesAll("norm(6)", x -> x.norm(6), VOID);
        leavesAll("times(0, 1, 6)", x -> x.times(0, 1, 6), BAD);
        leavesAll("times(6, 1, 2)", x -> x.times(6, 1, 2), BAD);
        leavesAll("times(0, 1, 2)", x -> x.times(0, 1, 2), STATE);
        leavesAll("sum(0, 1, 1, 2)", x -> x.sum(0, 1, 1, 2), BAD);
        leavesAll("sum(0, 1, 1, 0)", x -> x.sum(0, 1, 1, 0), STATE);
        leavesAll("flip(6)", x -> x.flip(6), BAD);
        leavesAll("nodeOf(6)", x -> x.nodeOf(6), BAD);
        leavesAll("nodeOf(3)", x -> x.nodeOf(3), STATE);
        leavesAll("apart(6, 0)", x -> x.apart(6, 0), BAD);
        leavesAll("apart(0, -2)", x -> x.apart(0, -2), BAD);
        leavesAll("apart(0, 0)", x -> x.apart(0, 0), STATE);
        leavesAll("apart(4, 3)", x -> x.apart(4, 3), NOT);
    }

    private void refusalsOfTheNetwork() {
        leavesAll("prime(7)", x -> x.prime(7), BAD);
        leavesAll("modulus(9)", x -> x.modulus(9), BAD);
        leavesAll("modulus(5)", x -> x.modulus(5), STATE);
        leavesAll("step(6, 0)", x -> x.step(6, 0), VOID);
        leavesAll("step(0, 5)", x -> x.step(0, 5), VOID);
        leavesAll("node(336, 0)", x -> x.node(336, 0), BAD);
        leavesAll("node(0, 5)", x -> x.node(0, 5), BAD);
        leavesAll("to(336, 0)", x -> x.to(336, 0), BAD);
        leavesAll("to(0, 6)", x -> x.to(0, 6), BAD);
        leavesAll("far(336, 0)", x -> x.far(336, 0), BAD);
        leavesAll("many(-2)", x -> x.many(-2), BAD);
        leavesAll("walks(13, 0)", x -> x.walks(13, 0), VOID);
        leavesAll("walks(2, 2)", x -> x.walks(2, 2), VOID);
        leavesAll("counted(5)", x -> x.counted(5), BAD);
        leavesAll("bound(3)", x -> x.bound(3), VOID);
    }

    private void refusalsOfWays() {
        leavesAll("way(336, 0)", x -> x.way(336, 0), BAD);
        leavesAll("way(0, -2)", x -> x.way(0, -2), BAD);
        leavesAll("way(335, 6)", x -> x.way(335, 6), NOT);
        leavesAll("walk(6)", x -> x.walk(6), BAD);
        leavesAll("ends(3)", x -> x.ends(3), BAD);
        leavesAll("ends(0)", x -> x.ends(0), BAD);
        leavesAll("ends(1)", x -> x.ends(1), -11);
        leavesAll("meets(3)", x -> x.meets(3), BAD);
        leavesAll("meets(0)", x -> x.meets(0), BAD);
        leavesAll("meets(1)", x -> x.meets(1), -11);
        leavesAll("product(6, 2)", x -> x.product(6, 2), BAD);
        leavesAll("product(0, 3)", x -> x.product(0, 3), BAD);
        leavesAll("product(0, 0)", x -> x.product(0, 0), BAD);
        leavesAll("product(0, 1)", x -> x.product(0, 1), -11);
        leavesAll("product(0, 2)", x -> x.product(0, 2), STATE);
        leavesAll("film(3, 0)", x -> x.film(3, 0), BAD);
        leavesAll("film(2, 336)", x -> x.film(2, 336), BAD);
    }

    private void refusalsOfRows() {
        leavesAll("row(3, 1)", x -> x.row(3, 1), BAD);
        leavesAll("row(2, 41)", x -> x.row(2, 41), BAD);
        leavesAll("row(2, -2)", x -> x.row(2, -2), -14);
        leavesAll("set(3, 0, 9)", x -> x.set(3, 0, 9), BAD);
        leavesAll("set(1, 0, 9)", x -> x.set(1, 0, 9), -11);
        leavesAll("set(2, 14, 9)", x -> x.set(2, 14, 9), -13);
        leavesAll("set(2, -1, 9)", x -> x.set(2, -1, 9), -13);
        leavesAll("get(3, 0)", x -> x.get(3, 0), VOID);
        leavesAll("get(1, 0)", x -> x.get(1, 0), VOID);
        leavesAll("get(2, 14)", x -> x.get(2, 14), VOID);
    }

    private void refusalsOfTheRest() {
        leavesAll("note(6)", x -> x.note(6), BAD);
        leavesAll("note(0)", x -> x.note(0), FULL);
        leavesAll("book(7, 0)", x -> x.book(7, 0), VOID);
        leavesAll("book(0, 5)", x -> x.book(0, 5), VOID);
        leavesAll("strike(6)", x -> x.strike(6), BAD);
        leavesAll("strike(0)", x -> x.strike(0), NOT);
        leavesAll("feed(31)", x -> x.feed(31), BAD);
        leavesAll("feed(32)", x -> x.feed(32), FULL);
        leavesAll("read(6)", x -> x.read(6), BAD);
        leavesAll("why(-1, 0)", x -> x.why(-1, 0), BAD);
        leavesAll("why(3, 0)", x -> x.why(3, 0), NOT);
        leavesAll("count(10)", x -> x.count(10), BAD);
    }

    private void refusalsOfOtherNetworks() {
        QuaternionNet x = of(29, 5);
        int place = x.walk(7);
        x.put(0, 1, 1, 0, 0);
        due("prime(5)", x.prime(5), STATE);
        due("nodeOf(0)", x.nodeOf(0), NOT);
        due("counted(3)", x.counted(3), STATE);
        due("node(0, 4)", x.node(0, 4), NOT);
        due("p", x.count(0), 29);
        due("PLACE", x.count(4), place);
        due("DEEDS", x.count(5), 1);
        isRegister(x, 0, 1, 1, 0, 0);
        due("back()", x.back(), 0);
        due("back()", x.back(), STATE);
        due("PLACE", x.count(4), 0);
    }

    // ---- what is made anew

    private void whatIsSoAlready() {
        leavesAll("prime(5)", x -> x.prime(5), 5);
        leavesAll("modulus(7)", x -> x.modulus(7), 7);
        for (int[] pq : networks()) {
            QuaternionNet x = of(pq[0], pq[1]);
            int place = x.walk(pq[0]);
            due("prime", x.prime(pq[0]), pq[0]);
            due("modulus", x.modulus(pq[1]), pq[1]);
            due("PLACE", x.count(4), place);
            due("DEEDS", x.count(5), 1);
            due("back", x.back(), 0);
        }
    }

    private void whatIsMadeAnew() {
        for (int other = 0; other < 2; other++) {
            QuaternionNet x = full();
            int troubles = x.count(8);
            due("another one", other == 0 ? x.prime(29) : x.modulus(3), other == 0 ? 5 : 7);
            due("NODES", x.count(3), other == 0 ? 168 : 24);
            due("SIDES", x.count(9), other == 0 ? 0 : 1);
            due("RING", x.ring(), other == 0 ? 3 : 4);
            due("walks", x.walks(2, 0), other == 0 ? 30 : 6);
            due("PLACE", x.count(4), 0);
            isRegister(x, 0, 1, 2, 3, 4);
            isRegister(x, 4, 5, 8, 6, 0);
            due("THE BOOK", x.count(6), 7);
            due("its last", x.book(6, 0), 7);
            isRow(x, 0, 0, 6, 1);
            isRow(x, 2, new int[14]);
            due("row 1", x.ends(1), -11);
            due("THE TAPE", x.count(7), 80);
            due("WHY", x.count(8), troubles);
            int[] p = {29, 5}, q = {7, 3};
            due("to", x.to(1, 5), table(p[other], q[other])[1][5]);
            due("THE IMAGE", x.restore(), 2);
            due("its NODES", x.count(3), 336);
            due("its RING", x.ring(), 6);
        }
    }

    private void whatLeavesDeeds() {
        QuaternionNet x = full();
        due("DEEDS", x.count(5), 16);
        x.prime(7);
        x.modulus(5);
        due("refused ones leave them", x.count(5), 16);
        x.prime(5);
        x.modulus(7);
        due("what is so already leaves them", x.count(5), 16);
        x.image();
        due("image() leaves them", x.count(5), 16);
        x.restore();
        due("restore() leaves none, though nothing is otherwise", x.count(5), 0);
        due("back", x.back(), STATE);
        x.walk(0);
        x.prime(13);
        due("prime() leaves none", x.count(5), 0);
        due("back", x.back(), STATE);
        x.walk(0);
        x.modulus(3);
        due("modulus() leaves none", x.count(5), 0);
        due("back", x.back(), STATE);
        x = new QuaternionNet();
        x.walk(0);
        due("a refused one", x.restore(), STATE);
        due("leaves them", x.back(), 0);
    }

    // ---- the image

    private void whatTheImageHolds() {
        QuaternionNet x = of(13, 7);
        for (int r = 0; r < 6; r++) x.put(r, r, -r, 9999, -9999);
        for (int k = 0; k < 3; k++) x.note(5);
        x.note(0);
        int place = x.walk(13);
        List<Long> before = new ArrayList<>(), after = new ArrayList<>();
        due("image", x.image(), place);
        look(x, before);
        before.set(5, 0L); // DEEDS are not of it
        x.prime(17);
        x.modulus(5);
        // both are struck, so that others come to their places in THE BOOK
        due("strike", x.strike(5), 3);
        due("strike", x.strike(0), 1);
        for (int r = 0; r < 6; r++) x.put(r, 7, 7, 7, r);
        for (int r = 0; r < 5; r++) x.note(r);
        x.walk(17);
        due("restore", x.restore(), place);
        look(x, after);
        due("all is as it was", after.equals(before) ? 1 : 0, 1);
        due("walks", x.walks(12, 0), 337892934880L);
        due("to", x.to(place, 0), table(13, 7)[place][0]);
    }

    private void whatRestoreLeaves() {
        QuaternionNet x = new QuaternionNet();
        x.image();
        lay(x, 0, 4, LEAST);
        x.row(1, 0);
        Checks.read(x, "(g88)", 0);
        feed(x, "~r1");
        x.put(1, 1, 2, 3, 4);
        due("restore", x.restore(), 0);
        isRow(x, 0, 4, LEAST);
        isRow(x, 1);
        due("row 1 is there", x.ends(1), 0);
        due("row 2 is missing", x.ends(2), -11);
        due("TROUBLES", x.count(8), 2);
        due("their number", x.why(1, 1), 88);
        due("THE TAPE", x.count(7), 3);
        x.put(1, 1, 2, 3, 4);
        due("it can be read", x.read(0), 1);
        isRegister(x, 0, 1, -2, -3, -4);
    }

    private void images() {
        QuaternionNet x = new QuaternionNet();
        due("at first", x.image(), 0);
        int place = x.walk(5);
        x.put(0, 1, 0, 0, 0);
        due("a second one", x.image(), place);
        x.walk(0);
        x.put(0, 2, 0, 0, 0);
        due("the second one", x.restore(), place);
        isRegister(x, 0, 1, 0, 0, 0);
        due("of the same object", new QuaternionNet().restore(), STATE);
    }

    private void restoredTwice() {
        QuaternionNet x = new QuaternionNet();
        x.note(0);
        x.image();
        for (int k = 0; k < 3; k++) {
            x.walk(k);
            x.note(0);
            x.put(1, 5, 5, 5, 5);
            x.note(1);
            due("restore", x.restore(), 0);
            due("PLACE", x.count(4), 0);
            due("DEEDS", x.count(5), 0);
            due("THE BOOK", x.count(6), 1);
            due("how often", x.book(0, 4), 1);
            isRegister(x, 1, 0, 0, 0, 0);
        }
        for (int[] pq : networks()) {
            QuaternionNet y = of(pq[0], pq[1]);
            int place = y.walk(0);
            y.image();
            y.modulus(pq[1] == 7 ? 3 : 7);
            due("q alone is otherwise", y.restore(), place);
            due("NODES", y.count(3), table(pq[0], pq[1]).length);
            y.prime(pq[0] == 29 ? 13 : 29);
            due("p alone is otherwise", y.restore(), place);
            due("NODES", y.count(3), table(pq[0], pq[1]).length);
            due("p", y.count(0), pq[0]);
            due("q", y.count(1), pq[1]);
        }
    }

    private void noImage() {
        QuaternionNet x = new QuaternionNet();
        x.put(0, 1, 2, 3, 4);
        x.walk(3);
        due("restore", x.restore(), STATE);
        due("PLACE", x.count(4), 4);
        due("DEEDS", x.count(5), 1);
        isRegister(x, 0, 1, 2, 3, 4);
        x.image();
        due("there is one", x.restore(), 4);
    }

    // ---- a new object, and counts

    private void newObjects() {
        int[] counts = {5, 3, 6, 24, 0, 0, 0, 0, 0, 1};
        QuaternionNet used = full();
        QuaternionNet x = new QuaternionNet();
        for (int i = 0; i < 10; i++) due("count(" + i + ")", x.count(i), counts[i]);
        due("another object has its own", used.count(3), 336);
        // an object is used for 512 calls, and the last one's answer is due still
        x = new QuaternionNet();
        int place = 0;
        for (int call = 1; call <= 512; call++) {
            place = table(5, 3)[place][call % 6];
            due("call " + call, x.walk(call % 6), place);
        }
    }

    private void counts() {
        QuaternionNet x = full();
        int[] counts = {5, 7, 6, 336, x.count(4), 16, 7, 80, 3, 1};
        for (int i = 0; i < 10; i++) due("count(" + i + ")", x.count(i), counts[i]);
        x.prime(29);
        int[] others = {29, 7, 30, 168, 0, 0, 7, 80, 3, 0};
        for (int i = 0; i < 10; i++) due("count(" + i + ")", x.count(i), others[i]);
    }

    private void noCount() {
        for (int what : new int[] {-1, 10, 11, LEAST, MOST}) due("count(" + what + ")", new QuaternionNet().count(what), BAD);
    }
}
