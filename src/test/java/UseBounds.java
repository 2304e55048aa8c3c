/** What the document says ahead of its terms: what a quaternion is, and for how many calls an object is used. */
final class UseBounds extends Bounds {
    private static final int CALLS = 512;

    UseBounds(Sentences doc) {
        super(doc);
    }

    @Override
    void all() {
        doc.opening("A QUATERNION has four PARTS a, b, c, d, whole numbers.", this::fourParts);
        doc.opening("An object is used for at most 512 calls after it has been made; what later calls answer is free.",
            this::toTheLastCall);
    }

    private void fourParts() {
        for (int i = 0; i < 4; i++) {
            QuaternionNet x = with(0, i == 0 ? -7 : 0, i == 1 ? -7 : 0, i == 2 ? -7 : 0, i == 3 ? -7 : 0);
            for (int k = 0; k < 4; k++) due("part(0, " + k + ")", x.part(0, k), k == i ? -7 : 0);
            due("there is no fifth", x.part(0, 4), VOID);
        }
    }

    /** The 512th call of an object still answers as it should, of whatever kind the calls ahead of it are. */
    private void toTheLastCall() {
        notesToTheLast();
        walksToTheLast();
        networksToTheLast();
        imagesToTheLast();
        textsToTheLast();
        rowsToTheLast();
        refusalsToTheLast();
    }

    private void notesToTheLast() {
        QuaternionNet x = new QuaternionNet();
        for (int call = 1; call <= CALLS; call++) due("note, call " + call, x.note(call % 6), call);
        x = new QuaternionNet();
        for (int call = 1; call < CALLS; call++) x.note(0);
        due("strike, the last call", x.strike(5), CALLS - 1);
    }

    private void walksToTheLast() {
        int[][] to = table(29, 7);
        QuaternionNet x = new QuaternionNet();
        x.modulus(7);
        x.prime(29);
        int place = 0;
        for (int call = 3; call <= CALLS; call++) {
            place = to[place][call % 30];
            due("walk, call " + call, x.walk(call % 30), place);
        }
    }

    private void networksToTheLast() {
        QuaternionNet x = new QuaternionNet();
        for (int call = 4; call <= CALLS; call += 4) {
            due("prime, call " + (call - 3), x.prime(13), 5);
            due("walks, call " + (call - 2), x.walks(12, 1), 2090849424230L);
            due("prime, call " + (call - 1), x.prime(5), 13);
            due("walks, call " + call, x.walks(12, 1), 24430854);
        }
    }

    private void imagesToTheLast() {
        QuaternionNet x = new QuaternionNet();
        int place = x.walk(5);
        due("image, call 2", x.image(), place);
        for (int call = 4; call <= CALLS; call += 2) {
            x.modulus(7);
            due("restore, call " + call, x.restore(), place);
        }
    }

    private void textsToTheLast() {
        QuaternionNet x = new QuaternionNet();
        for (int call = 4; call <= CALLS; call += 4) {
            feed(x, "(r0");
            due("read, call " + call, x.read(1), -103);
        }
        x = new QuaternionNet();
        for (int call = 1; call < CALLS; call++) due("feed, call " + call, x.feed('r'), call <= 80 ? call : FULL);
        due("wipe, the last call", x.wipe(), 80);
    }

    private void rowsToTheLast() {
        QuaternionNet x = new QuaternionNet();
        for (int call = 4; call <= CALLS; call += 4) {
            due("row, call " + (call - 3), x.row(0, 40), 1);
            due("set, call " + (call - 2), x.set(0, 39, call), 1);
            due("get, call " + (call - 1), x.get(0, 39), call);
            due("film, call " + call, x.film(0, 23), 3);
        }
    }

    private void refusalsToTheLast() {
        QuaternionNet x = new QuaternionNet();
        for (int call = 1; call < CALLS; call++) due("walk, call " + call, x.walk(6), BAD);
        due("walk, the last call", x.walk(5), 6);
    }
}
