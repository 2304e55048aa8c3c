/** The book: promises 28 to 30. */
final class BookBounds extends Bounds {
    BookBounds(Sentences doc) {
        super(doc);
    }

    @Override
    void all() {
        doc.term("THE BOOK holds QUATERNIONS (7 at most), in the order in which they came, and how often each was NOTED.",
            this::inTheirOrder);
        doc.promise(28, "A REGISTER is NOTED in THE BOOK: how often it was.", this::notedOnceAndAgain);
        doc.promise(28, "BAD; FULL: 7 others are there.", this::noNote);
        doc.promise(29, "Of the i-th (0 on) in THE BOOK PART what (0 .. 3), how often it was NOTED (4).", this::firstAndLast);
        doc.promise(29, "VOID: BAD; there are not so many.", this::noneInTheBook);
        doc.promise(30, "A REGISTER is none of THE BOOK any more: how often it was NOTED.", this::struckAtEachPlace);
        doc.promise(30, "BAD; NOT: it is none.", this::noStrike);
    }

    private static int note(QuaternionNet x, int a) {
        x.put(0, a, 0, 0, -a);
        return x.note(0);
    }

    private static int strike(QuaternionNet x, int a) {
        x.put(0, a, 0, 0, -a);
        return x.strike(0);
    }

    /** The book holds these, and nothing behind them. */
    private void holds(QuaternionNet x, int... want) {
        due("how many", x.count(6), want.length);
        for (int i = 0; i < want.length; i++) {
            due("book(" + i + ", 0)", x.book(i, 0), want[i]);
            due("book(" + i + ", 3)", x.book(i, 3), -want[i]);
        }
        due("behind the last", x.book(want.length, 0), VOID);
    }

    private void inTheirOrder() {
        QuaternionNet x = new QuaternionNet();
        int[] some = {5, -3, 0, 9999, -9999, 1, 2};
        for (int i = 0; i < 7; i++) {
            due("a new one", note(x, some[i]), 1);
            due("how many", x.count(6), i + 1);
        }
        holds(x, some);
        due("an eighth", note(x, 3), FULL);
        due("the first again", note(x, 5), 2);
        due("the last again", note(x, 2), 2);
        holds(x, some);
        due("the first is struck", strike(x, 5), 2);
        due("it comes again, behind the others", note(x, 5), 1);
        holds(x, -3, 0, 9999, -9999, 1, 2, 5);
    }

    private void notedOnceAndAgain() {
        QuaternionNet x = new QuaternionNet();
        for (int k = 1; k <= 250; k++) due("note", x.note(5), k);
        due("how often", x.book(0, 4), 250);
        due("another REGISTER that holds the same", x.note(0), 251);
        due("how many", x.count(6), 1);
        for (int i = 0; i < 4; i++) {
            x.put(1, i == 0 ? 1 : 0, i == 1 ? 1 : 0, i == 2 ? 1 : 0, i == 3 ? 1 : 0);
            due("another PART " + i, x.note(1), 1);
        }
        x.put(1, -1, 0, 0, 0);
        due("the other sign is another one", x.note(1), 1);
        due("how many", x.count(6), 6);
    }

    private void noNote() {
        QuaternionNet x = new QuaternionNet();
        for (int r : NO_REGISTERS) due("register " + r, x.note(r), BAD);
        due("how many", x.count(6), 0);
        for (int a = 1; a <= 6; a++) note(x, a);
        due("the seventh", note(x, 7), 1);
        due("the eighth", note(x, 8), FULL);
        due("the eighth again", x.note(0), FULL);
        for (int a = 1; a <= 7; a++) due("6 others are there", note(x, a), 2);
        for (int r : NO_REGISTERS) due("register " + r, x.note(r), BAD);
        holds(x, 1, 2, 3, 4, 5, 6, 7);
        strike(x, 4);
        due("there is room again", note(x, 8), 1);
        due("and none any more", note(x, 4), FULL);
        holds(x, 1, 2, 3, 5, 6, 7, 8);
    }

    private void firstAndLast() {
        QuaternionNet x = new QuaternionNet();
        for (int k = 0; k < 7; k++) {
            x.put(0, k, -9999, 9999, 10 * k);
            for (int often = 0; often <= k; often++) x.note(0);
        }
        for (int i : new int[] {0, 3, 6}) {
            long[] want = {i, -9999, 9999, 10 * i, i + 1};
            for (int what = 0; what <= 4; what++) due("book(" + i + ", " + what + ")", x.book(i, what), want[what]);
        }
    }

    private void noneInTheBook() {
        QuaternionNet x = new QuaternionNet();
        for (int i : new int[] {LEAST, -1, 0, 1, MOST}) due("of none the " + i, x.book(i, 0), VOID);
        for (int size = 1; size <= 7; size++) {
            note(x, size);
            for (int what = 0; what <= 4; what++) {
                due("of " + size + " one behind the last", x.book(size, what), VOID);
                due("of " + size + " one ahead", x.book(-1, what), VOID);
            }
            for (int what : new int[] {-1, 5, LEAST, MOST}) {
                due("what " + what, x.book(0, what), VOID);
                due("what " + what, x.book(size - 1, what), VOID);
            }
        }
        for (int i : new int[] {LEAST, 8, MOST}) due("of seven the " + i, x.book(i, 4), VOID);
    }

    private void struckAtEachPlace() {
        int[][] left = {{2, 3, 4, 5, 6, 7}, {1, 3, 4, 5, 6, 7}, {1, 2, 3, 4, 5, 6}};
        int[] struck = {1, 2, 7};
        for (int k = 0; k < 3; k++) {
            QuaternionNet x = new QuaternionNet();
            for (int a = 1; a <= 7; a++) {
                note(x, a);
                if (a % 2 == 0) x.note(0);
            }
            due("strike " + struck[k], strike(x, struck[k]), struck[k] % 2 == 0 ? 2 : 1);
            holds(x, left[k]);
            for (int i = 0; i < 6; i++) due("how often", x.book(i, 4), left[k][i] % 2 == 0 ? 2 : 1);
        }
        QuaternionNet x = new QuaternionNet();
        note(x, 9);
        due("the only one", strike(x, 9), 1);
        holds(x);
        due("from the first time on", note(x, 9), 1);
    }

    private void noStrike() {
        QuaternionNet x = new QuaternionNet();
        due("of none", x.strike(0), NOT);
        note(x, 3);
        for (int r : NO_REGISTERS) due("register " + r, x.strike(r), BAD);
        due("another", strike(x, 4), NOT);
        due("the other sign", strike(x, -3), NOT);
        due("itself", strike(x, 3), 1);
        due("once more", strike(x, 3), NOT);
        holds(x);
    }
}
