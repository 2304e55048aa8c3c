/** The tape, texts, faults and why: promises 31 to 34. */
final class TextBounds extends Bounds {
    private static final String BEGIN = "~(rg[", DIGITS = "0123456789", SIGNS = "+-*";

    TextBounds(Sentences doc) {
        super(doc);
    }

    @Override
    void all() {
        doc.term("THE TAPE holds 0 .. 80 bytes 32 .. 126.", this::tapeOfEachByte);
        texts();
        troubles();
        details();
        promises();
    }

    private void texts() {
        doc.term("A TEXT: E: T, perhaps + T, - T and so on.", this::sums);
        doc.term("T: F, perhaps * F and so on.", this::products);
        doc.term("F: ~ F (its CONJUGATE);", this::conjugates);
        doc.term("( E ) (a GROUP; at most 4 are open at once);", this::groups);
        doc.term("r and a figure 0 .. 5 (a REGISTER);", this::registers);
        doc.term("g and 1 or 2 figures (a STEP);", this::steps);
        doc.term("[ N , N , N , N ] with N a number of 1 to 4 figures, - ahead of it, or none.", this::numbers);
        doc.term("No blanks.", this::blanks);
        doc.term("It is worked out as it stands (products ahead of sums, from the left on, PARTS -9999 .. 9999 at each sign + - *).",
            this::workedOut);
        doc.term("sums and products in read() may pass no bound on the way, either.", this::boundsOnTheWay);
    }

    private void troubles() {
        doc.term("FAULT: the first byte with which no such text goes on, or the length, if it ends too early: -100 less it.",
            this::faultsByLength);
        doc.term("WHY tells of the latest read() that was refused (none at first), TROUBLES, each but the last with a CAUSE "
            + "behind it:", this::whyOfTheLatest);
        doc.term("one of sort 2 with the place of its ( for each GROUP that is open there, the outermost first;", this::openGroups);
        doc.term("last: by FAULT one of sort 1 with its place;", this::troublesOfFaults);
        doc.term("by a sign at which a PART would be beyond one of sort 3 with the place of that sign;", this::troublesOfSigns);
        doc.term("by a STEP that is none one of sort 4 with its number.", this::troublesOfSteps);
        doc.term("(The whole text is looked at for a FAULT first.)", this::faultsFirst);
    }

    private void details() {
        doc.term("THE TAPE is empty behind each call that reads it, also where it is refused (BAD of the REGISTER: it stays).",
            this::tapeBehindRead);
        doc.term("WHY stays till the next read() that is refused (not by BAD).", this::whyStays);
        doc.term("A GROUP that is closed is not open behind it.", this::closedGroups);
        doc.term("Of what is beyond and of a STEP that is none the one is told to which the working out from the left comes first.",
            this::firstOfTwoTroubles);
        doc.term("Noughts ahead are allowed, - ahead of 0, too.", this::noughtsAhead);
    }

    private void promises() {
        doc.promise(31, "A byte comes behind THE TAPE's: how many it has.", this::feedsToTheLast);
        doc.promise(31, "BAD; FULL: it has 80.", this::noFeed);
        doc.promise(32, "THE TAPE is empty: how many it had.", this::wipes);
        doc.promise(33, "A REGISTER becomes what THE TAPE, a TEXT, tells: 1.", this::shortestAndLongestTexts);
        doc.promise(33, "BAD; -100 less the FAULT; STATE: a PART would be beyond; NOT: a STEP that is none (of the two the one "
            + "that comes first as it is worked out).", this::refusedTexts);
        doc.promise(34, "Of TROUBLE i (0 on) of WHY its sort (what 0), its number (1).", this::firstAndLastTrouble);
        doc.promise(34, "BAD: i below 0, what; NOT: there are not so many.", this::noTrouble);
    }

    // ---- what all have in common

    /** An object with the registers 0 to 5 at (1, 2, 3, 4), (5, 6, 7, 8), the greatest, the least, one, and nothing. */
    private static QuaternionNet ready() {
        QuaternionNet x = new QuaternionNet();
        x.put(0, 1, 2, 3, 4);
        x.put(1, 5, 6, 7, 8);
        x.put(2, 9999, 9999, 9999, 9999);
        x.put(3, -9999, -9999, -9999, -9999);
        x.put(4, 1, 0, 0, 0);
        return x;
    }

    private void reads(String text, int a, int b, int c, int d) {
        QuaternionNet x = ready();
        due(text, Checks.read(x, text, 5), 1);
        isRegister(x, 5, a, b, c, d);
        due("no trouble by " + text, x.count(8), 0);
    }

    /** It is refused so, with these troubles (sort, number, sort, number, ..), and nothing else is done. */
    private void refuses(String text, int answer, int... troubles) {
        QuaternionNet x = ready();
        due(text, Checks.read(x, text, 0), answer);
        isRegister(x, 0, 1, 2, 3, 4);
        isWhy(x, text, troubles);
    }

    private void isWhy(QuaternionNet x, String text, int... troubles) {
        due("troubles of " + text, x.count(8), troubles.length / 2);
        for (int i = 0; i < troubles.length; i++) due("why " + i + " of " + text, x.why(i / 2, i % 2), troubles[i]);
        due("no more of " + text, x.why(troubles.length / 2, 0), NOT);
    }

    private void isFaultAt(String text, int place) {
        due(text, Checks.read(ready(), text, 0), -100 - place);
    }

    /** Behind these bytes a text goes on with these bytes and with no other one of 32 to 126. */
    private void goesOn(String begun, String by) {
        for (char next = 32; next <= 126; next++) {
            boolean isFault = Checks.read(ready(), begun + next, 0) == -100 - begun.length();
            due(begun + next, isFault ? 0 : 1, by.indexOf(next) >= 0 ? 1 : 0);
        }
    }

    private static String times(int n, String piece) {
        StringBuilder all = new StringBuilder();
        for (int i = 0; i < n; i++) all.append(piece);
        return all.toString();
    }

    // ---- the tape

    private void tapeOfEachByte() {
        QuaternionNet x = new QuaternionNet();
        due("at first", x.count(7), 0);
        int had = 0;
        for (int letter = -3; letter <= 130; letter++) {
            if (had == 80) {
                due("wipe", x.wipe(), 80);
                had = 0;
            }
            boolean may = letter >= 32 && letter <= 126;
            if (may) had++;
            due("byte " + letter, x.feed(letter), may ? had : BAD);
        }
        due("count(7)", x.count(7), had);
    }

    private void feedsToTheLast() {
        QuaternionNet x = new QuaternionNet();
        for (int n = 1; n <= 80; n++) due("byte " + n, x.feed(n % 2 == 0 ? 32 : 126), n);
        due("count(7)", x.count(7), 80);
    }

    private void noFeed() {
        QuaternionNet x = new QuaternionNet();
        for (int letter : new int[] {31, 127, 0, 10, -1, 128, 255, 256 + 'r', 65536 + 'r', LEAST, MOST}) {
            due("byte " + letter, x.feed(letter), BAD);
        }
        due("nothing came", x.count(7), 0);
        for (int n = 1; n <= 79; n++) x.feed('~');
        due("the last", x.feed('~'), 80);
        due("FULL", x.feed('~'), FULL);
        due("FULL still", x.feed(126), FULL);
        due("BAD is first", x.feed(127), BAD);
        due("BAD is first", x.feed(31), BAD);
        due("80 stay", x.count(7), 80);
        due("read", x.read(0), -180);
        due("there is room again", x.feed('r'), 1);
    }

    private void wipes() {
        QuaternionNet x = new QuaternionNet();
        due("an empty one", x.wipe(), 0);
        feed(x, "r");
        due("of one", x.wipe(), 1);
        for (int n = 1; n <= 80; n++) x.feed('~');
        due("a full one", x.wipe(), 80);
        due("an empty one", x.wipe(), 0);
        due("count(7)", x.count(7), 0);
        due("from the first on", x.feed('g'), 1);
        feed(x, "1");
        due("nothing of it is left", x.read(0), 1);
    }

    private void tapeBehindRead() {
        String[] texts = {"r0", "", "r", "r2+r2", "g6", "(", "(((((", "r0)"};
        for (String text : texts) {
            QuaternionNet x = ready();
            feed(x, text);
            for (int r : NO_REGISTERS) due("BAD", x.read(r), BAD);
            due("it stays", x.count(7), text.length());
            x.read(0);
            due("it is empty", x.count(7), 0);
            due("the next text", Checks.read(x, "g0", 0), 1);
            isRegister(x, 0, 1, -2, 0, 0);
        }
    }

    // ---- what a text may be

    private void sums() {
        goesOn("r0", SIGNS);
        goesOn("r0+", BEGIN);
        goesOn("r0-", BEGIN);
        reads("r0", 1, 2, 3, 4);
        reads("r0+r1-r4", 5, 8, 10, 12);
        reads("r4" + times(26, "+r4"), 27, 0, 0, 0);
        isFaultAt("r0+", 3);
        isFaultAt("r0++r0", 3);
        isFaultAt("+r0", 0);
        isFaultAt("-r0", 0);
    }

    private void products() {
        goesOn("r0*", BEGIN);
        goesOn("r0*r1", SIGNS);
        reads("r0*r1", -60, 12, 30, 24);
        reads("r0" + times(26, "*r4"), 1, 2, 3, 4);
        isFaultAt("r0**r1", 3);
        isFaultAt("*r1", 0);
        isFaultAt("r0r1", 2);
    }

    private void conjugates() {
        goesOn("~", BEGIN);
        goesOn("~~", BEGIN);
        reads("~r0", 1, -2, -3, -4);
        reads("~~r0", 1, 2, 3, 4);
        reads("~~~r0", 1, -2, -3, -4);
        reads("~[0,0,0,0]", 0, 0, 0, 0);
        reads("~r2", 9999, -9999, -9999, -9999);
        reads("~(r0+r4)", 2, -2, -3, -4);
        // it is of its F alone
        reads("~r0+r0", 2, 0, 0, 0);
        reads("~r0*r0", 30, 0, 0, 0);
        reads("~g0", 1, 2, 0, 0);
        isFaultAt("r0~", 2);
        isFaultAt("~", 1);
        isFaultAt("~+r0", 1);
    }

    private void groups() {
        goesOn("", BEGIN);
        goesOn("(", BEGIN);
        goesOn("(((", BEGIN);
        goesOn("((((", "~rg[");
        goesOn("((((~", "~rg[");
        goesOn("((((r0+", "~rg[");
        goesOn("((((r0)*", BEGIN);
        goesOn("(r0", SIGNS + ")");
        goesOn("((((r0", SIGNS + ")");
        goesOn("((((r0)))", SIGNS + ")");
        goesOn("((((r0))))", SIGNS);
        reads("((((r0))))", 1, 2, 3, 4);
        reads("~(~(~(~(r0))))", 1, 2, 3, 4);
        isFaultAt("()", 1);
        isFaultAt("(r0", 3);
        isFaultAt("((((r0)))", 9);
        isFaultAt("r0)", 2);
        isFaultAt("((((r0)))))", 10);
        isFaultAt("(((((r0)))))", 4);
    }

    private void closedGroups() {
        reads("((((r0))))+((((r1))))", 6, 8, 10, 12);
        reads("(((r0)+(r0))*(r4))+(r4)*((r4))", 3, 4, 6, 8);
        isFaultAt("((((r0)+(r0)+((r0", 14);
        refuses("(r0)*(r2)+", -110, 1, 10);
        refuses("((r0)*(r1)+g7)", NOT, 2, 0, 4, 7);
        refuses("((r5)*(r1)+(r2)+(r2))", STATE, 2, 0, 3, 15);
        refuses("(((r0))", -107, 2, 0, 1, 7);
        refuses("(r0)+(r1)+(((r0)+(r4)x", -121, 2, 10, 2, 11, 1, 21);
    }

    private void registers() {
        goesOn("r", "012345");
        goesOn("r5", SIGNS);
        reads("r0", 1, 2, 3, 4);
        reads("r4", 1, 0, 0, 0);
        reads("r5", 0, 0, 0, 0);
        isFaultAt("r", 1);
        isFaultAt("r6", 1);
        isFaultAt("r9", 1);
        isFaultAt("r00", 2);
        isFaultAt("r-1", 1);
        isFaultAt("R0", 0);
    }

    private void steps() {
        goesOn("g", DIGITS);
        goesOn("g0", DIGITS + SIGNS);
        goesOn("(g9", DIGITS + SIGNS + ")");
        goesOn("g00", SIGNS);
        goesOn("g29", SIGNS);
        reads("g0", 1, -2, 0, 0);
        reads("g5", 1, 2, 0, 0);
        reads("g05", 1, 2, 0, 0);
        reads("g00+g01", 2, -2, -2, 0);
        isFaultAt("g", 1);
        isFaultAt("g-1", 1);
        isFaultAt("g000", 3);
        isFaultAt("g100", 3);
        isFaultAt("G0", 0);
        due("g6", Checks.read(ready(), "g6", 0), NOT);
        due("g99", Checks.read(ready(), "g99", 0), NOT);
        for (int p : PRIMES) {
            QuaternionNet x = of(p, 3);
            due("the last STEP of " + p, Checks.read(x, "g" + p, 0), 1);
            due("its first PART", x.part(0, 0), x.step(p, 0));
            due("one more than the last", Checks.read(x, "g" + (p + 1), 0), NOT);
        }
    }

    private void numbers() {
        goesOn("[", "-" + DIGITS);
        goesOn("[-", DIGITS);
        goesOn("[1", DIGITS + ",");
        goesOn("[123", DIGITS + ",");
        goesOn("[1234", ",");
        goesOn("[-123", DIGITS + ",");
        goesOn("[-1234", ",");
        goesOn("[1,", "-" + DIGITS);
        goesOn("[1,2,3,", "-" + DIGITS);
        goesOn("[1,2,3", DIGITS + ",");
        goesOn("[1,2,3,4", DIGITS + "]");
        goesOn("[1,2,3,-1234", "]");
        goesOn("[1,2,3,4]", SIGNS);
        goesOn("([1,2,3,4]", SIGNS + ")");
        reads("[9999,-9999,9999,-9999]", 9999, -9999, 9999, -9999);
        reads("[1,-2,3,-4]", 1, -2, 3, -4);
        reads("[0,0,0,0]", 0, 0, 0, 0);
        String[] early = {"[", "[-", "[1", "[1,", "[1,2,3", "[1,2,3,", "[1,2,3,4", "[1,2,3,-"};
        for (String text : early) isFaultAt(text, text.length());
        isFaultAt("[10000,0,0,0]", 5);
        isFaultAt("[0,0,0,-10000]", 12);
        isFaultAt("[1,2,3]", 6);
        isFaultAt("[1,2,3,4,5]", 8);
        isFaultAt("[]", 1);
        isFaultAt("[+1,0,0,0]", 1);
        isFaultAt("[--1,0,0,0]", 2);
        isFaultAt("[1,0,0,r0]", 7);
    }

    private void noughtsAhead() {
        reads("[0000,0001,-0002,0012]", 0, 1, -2, 12);
        reads("[-0,-00,-000,-0000]", 0, 0, 0, 0);
        reads("g00", 1, -2, 0, 0);
        reads("g03", 1, 0, 0, 2);
        isFaultAt("[00001,0,0,0]", 5);
        isFaultAt("g003", 3);
        refuses("g06", NOT, 4, 6);
    }

    private void blanks() {
        String text = "(~r0*g05)+[1,-2,3,4]";
        due("without", Checks.read(ready(), text, 0), 1);
        for (int i = 0; i <= text.length(); i++) isFaultAt(text.substring(0, i) + " " + text.substring(i), i);
        isFaultAt(" ", 0);
    }

    private void workedOut() {
        reads("r0+r1*r4", 6, 8, 10, 12);
        reads("r0*r4+r1", 6, 8, 10, 12);
        reads("r0-r1-r4", -5, -4, -4, -4);
        reads("r0-(r1-r4)", -3, -4, -4, -4);
        reads("r0-r1+r4", -3, -4, -4, -4);
        reads("[0,1,0,0]*[0,0,1,0]*[0,1,0,0]", 0, 0, 1, 0);
        reads("[0,1,0,0]*[0,1,0,0]*[0,0,1,0]", 0, 0, -1, 0);
        reads("[0,1,0,0]*([0,0,1,0]*[0,0,0,1])", -1, 0, 0, 0);
        reads("r2-[1,1,1,1]", 9998, 9998, 9998, 9998);
        reads("r2+r3", 0, 0, 0, 0);
        reads("r4*r2", 9999, 9999, 9999, 9999);
        reads("[-1,0,0,0]*r2", -9999, -9999, -9999, -9999);
        due("a sum beyond", Checks.read(ready(), "r2+r4", 0), STATE);
        due("a difference beyond", Checks.read(ready(), "r3-r4", 0), STATE);
        due("a product beyond", Checks.read(ready(), "[2,0,0,0]*[5000,0,0,0]", 0), STATE);
        // what stands in the REGISTER that it comes to is what it was till the end
        QuaternionNet x = ready();
        due("onto itself", Checks.read(x, "r0+r0*r0", 0), 1);
        isRegister(x, 0, -27, 6, 9, 12);
    }

    private void boundsOnTheWay() {
        refuses("r2+r4-r4", STATE, 3, 2);
        refuses("r3-r4+r4", STATE, 3, 2);
        refuses("r2-r4+r4+r4", STATE, 3, 8);
        refuses("[100,0,0,0]*[100,0,0,0]-[1,0,0,0]", STATE, 3, 11);
        refuses("[100,0,0,0]*[100,0,0,0]*[0,0,0,0]", STATE, 3, 11);
        refuses("r2*r2*r5", STATE, 3, 2);
        refuses("r3*r2*r2", STATE, 3, 2);
        refuses("r4-(r2+r4)", STATE, 2, 3, 3, 6);
        reads("r2-r4+r4", 9999, 9999, 9999, 9999);
        reads("[99,0,0,0]*[101,0,0,0]", 9999, 0, 0, 0);
        reads("[-99,0,0,0]*[101,0,0,0]", -9999, 0, 0, 0);
    }

    // ---- faults

    private void faultsByLength() {
        for (String text : new String[] {"", "(", "~", "r", "g", "[", "r0+", "r0*", "r0-", "(r0", "((((", "[1,2,3,4"}) {
            isFaultAt(text, text.length());
        }
        isFaultAt(times(79, "~"), 79);
        isFaultAt(times(80, "~"), 80);
        isFaultAt(times(26, "r4*") + "~~", 80);
        isFaultAt(times(26, "r4*") + "4", 78);
        isFaultAt("x", 0);
        isFaultAt("r0!r", 2);
        isFaultAt(times(78, "~") + "rx", 79);
    }

    private void shortestAndLongestTexts() {
        reads("r0", 1, 2, 3, 4);
        reads("g0", 1, -2, 0, 0);
        String longest = times(26, "r4*") + "r0";
        due("its length", longest.length(), 80);
        reads(longest, 1, 2, 3, 4);
        reads(times(78, "~") + "r0", 1, 2, 3, 4);
        reads("(" + times(25, "r4+") + "r0)", 26, 2, 3, 4);
        for (int r = 0; r < 6; r++) {
            QuaternionNet x = ready();
            due("into " + r, Checks.read(x, "r1", r), 1);
            isRegister(x, r, 5, 6, 7, 8);
        }
    }

    private void refusedTexts() {
        for (int r : NO_REGISTERS) due("register " + r, Checks.read(ready(), "r0", r), BAD);
        for (int r : NO_REGISTERS) due("BAD is ahead of FAULT", Checks.read(ready(), "x", r), BAD);
        refuses("x", -100, 1, 0);
        refuses(times(80, "~"), -180, 1, 80);
        refuses("r2+r4", STATE, 3, 2);
        refuses("g6", NOT, 4, 6);
        refuses("r2+r4+g6", STATE, 3, 2);
        refuses("g6+r2+r4", NOT, 4, 6);
        refuses("r2+r4+g6+", -109, 1, 9);
    }

    private void faultsFirst() {
        refuses("r2+r2+", -106, 1, 6);
        refuses("g99*g", -105, 1, 5);
        refuses("(r2*r2)+(g99)+(r0+x)", -118, 2, 14, 1, 18);
        refuses("g99 ", -103, 1, 3);
        refuses("(g99", -104, 2, 0, 1, 4);
    }

    // ---- why

    private void whyOfTheLatest() {
        QuaternionNet x = ready();
        due("none at first", x.count(8), 0);
        due("none at first", x.why(0, 0), NOT);
        Checks.read(x, "((((x", 0);
        isWhy(x, "the first", 2, 0, 2, 1, 2, 2, 2, 3, 1, 4);
        Checks.read(x, "(r2*r2)", 0);
        isWhy(x, "the second", 2, 0, 3, 3);
        Checks.read(x, "g88", 0);
        isWhy(x, "the third", 4, 88);
        Checks.read(x, "", 0);
        isWhy(x, "the fourth", 1, 0);
    }

    private void whyStays() {
        QuaternionNet x = ready();
        Checks.read(x, "(g77", 0);
        Checks.read(x, "r0", 0);
        isWhy(x, "behind one that is not refused", 2, 0, 1, 4);
        feed(x, "g66");
        for (int r : NO_REGISTERS) x.read(r);
        isWhy(x, "behind BAD", 2, 0, 1, 4);
        x.wipe();
        x.prime(13);
        x.modulus(7);
        x.image();
        x.restore();
        isWhy(x, "behind all others", 2, 0, 1, 4);
        Checks.read(x, "g66", 0);
        isWhy(x, "behind the next", 4, 66);
    }

    private void openGroups() {
        refuses("(x", -101, 2, 0, 1, 1);
        refuses("((x", -102, 2, 0, 2, 1, 1, 2);
        refuses("~(r0*(~~(r1+(", -113, 2, 1, 2, 5, 2, 8, 2, 12, 1, 13);
        refuses("((((r2+r4))))", STATE, 2, 0, 2, 1, 2, 2, 2, 3, 3, 6);
        refuses("((((g6))))", NOT, 2, 0, 2, 1, 2, 2, 2, 3, 4, 6);
        refuses("(((((", -104, 2, 0, 2, 1, 2, 2, 2, 3, 1, 4);
        // a sign stands in the GROUPS that are open at it, not in those at its sides
        refuses("(r2)+(r4)", STATE, 3, 4);
        refuses("((r2)+(r4))", STATE, 2, 0, 3, 5);
    }

    private void troublesOfFaults() {
        refuses("", -100, 1, 0);
        refuses("r0+r6", -104, 1, 4);
        refuses("[1,2,3,12345]", -111, 1, 11);
        refuses("(r0))", -104, 1, 4);
        String[] tails = {"", "x", ")", "~", "~)", "r", "r6", "g", "gr", "g123", "[", "[]", "[-", "[--", "[1", "[1]", "[1,", "[1,,",
            "[1,2]", "[1,2,-]", "[1,2,3]", "[1,2,3,", "[1,2,3,4", "[1,2,3,4,", "[12345", "[1,2,3,12345", "r0(", "g0r", "[0,0,0,0]0",
            "r0+", "r0+)", "r0-*", "r0*", "r0*-", "r0*r1+r6", "g99-g"};
        int[] places = {0, 0, 0, 1, 1, 1, 1, 1, 1, 3, 1, 1, 2, 2, 2, 2, 3, 3, 4, 6, 6, 7, 8, 8, 5, 11, 2, 2, 9, 3, 3, 3, 3, 3, 7, 5};
        for (int i = 0; i < tails.length; i++) refusesInGroups(tails[i], "", -100 - places[i], 1, places[i]);
    }

    /** It is refused so in none to four GROUPS, behind which a place moves on, but not the number of a STEP. */
    private void refusesInGroups(String begin, String end, int answer, int sort, int number) {
        for (int open = 0; open <= 4; open++) {
            int[] troubles = new int[2 * open + 2];
            for (int i = 0; i < open; i++) {
                troubles[2 * i] = 2;
                troubles[2 * i + 1] = i;
            }
            troubles[2 * open] = sort;
            troubles[2 * open + 1] = sort == 4 ? number : number + open;
            refuses(times(open, "(") + begin + times(open, end), sort == 1 ? answer - open : answer, troubles);
        }
    }

    private void troublesOfSigns() {
        refuses("r2+r4", STATE, 3, 2);
        refuses("r3-r4", STATE, 3, 2);
        refuses("r2*r2", STATE, 3, 2);
        refuses("r0+r2*r2", STATE, 3, 5);
        refuses("r5*r1+r2+r4", STATE, 3, 8);
        refuses("r2-r4+r2*r4", STATE, 3, 5);
        refuses("r4+" + times(25, "r5+") + "r2", STATE, 3, 77);
        String[] beyond = {"r2+r4", "r3-r4", "r2*r2", "r0+r2*r3", "r0*r1+r2+r4"};
        int[] places = {2, 2, 2, 5, 5};
        for (int i = 0; i < beyond.length; i++) refusesInGroups(beyond[i], ")", STATE, 3, places[i]);
    }

    private void troublesOfSteps() {
        refuses("g6", NOT, 4, 6);
        refuses("g99", NOT, 4, 99);
        refuses("g07", NOT, 4, 7);
        refuses("r0*g5+g10", NOT, 4, 10);
        refuses("~g42", NOT, 4, 42);
        for (String text : new String[] {"g6", "~g6", "r0*g6", "r0+g6", "g5-g06*r0", "g6+g7"}) refusesInGroups(text, ")", NOT, 4, 6);
    }

    private void firstOfTwoTroubles() {
        refuses("r2+r4+g6", STATE, 3, 2);
        refuses("g6+r2+r4", NOT, 4, 6);
        // both factors are worked out ahead of the sum
        refuses("r2+r4*g6", NOT, 4, 6);
        refuses("r2*r2+g6", STATE, 3, 2);
        refuses("r2*g6*r2", NOT, 4, 6);
        refuses("r2+(r4*g6)", NOT, 2, 3, 4, 6);
        refuses("(r2+r4)*g6", STATE, 2, 0, 3, 3);
        refuses("g6*g7", NOT, 4, 6);
        refuses("r2*r2*r2", STATE, 3, 2);
        refuses("r2+r4*(r2+r2)", STATE, 2, 6, 3, 9);
    }

    private void firstAndLastTrouble() {
        QuaternionNet x = ready();
        Checks.read(x, "(((([0,0,0,x", 0);
        for (int i = 0; i < 4; i++) {
            due("sort " + i, x.why(i, 0), 2);
            due("number " + i, x.why(i, 1), i);
        }
        due("the last one's sort", x.why(4, 0), 1);
        due("the last one's number", x.why(4, 1), 11);
    }

    private void noTrouble() {
        QuaternionNet x = ready();
        for (int i : new int[] {0, 1, MOST}) due("at first " + i, x.why(i, 0), NOT);
        for (int i : new int[] {-1, LEAST}) due("at first " + i, x.why(i, 0), BAD);
        Checks.read(x, "((x", 0);
        for (int i : new int[] {3, 4, 5, MOST}) {
            due("why(" + i + ", 0)", x.why(i, 0), NOT);
            due("why(" + i + ", 1)", x.why(i, 1), NOT);
        }
        for (int i : new int[] {-1, -2, LEAST}) due("why(" + i + ", 1)", x.why(i, 1), BAD);
        for (int what : new int[] {-1, 2, LEAST, MOST}) {
            due("what " + what, x.why(0, what), BAD);
            due("BAD is first, what " + what, x.why(99, what), BAD);
        }
    }
}
