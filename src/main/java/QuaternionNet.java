import java.util.Arrays;

/**
 * A bench for networks made of quaternions. The words in capitals in the comments are those of the document
 * (../shared/DOC.md). Everything is made once in the constructors and written over, so that no call needs a new object.
 */
public final class QuaternionNet {
    public static final int BAD = -1, NOT = -2, FULL = -3, STATE = -5;
    public static final long VOID = Long.MIN_VALUE;

    private static final int MISSING = -11, OUTSIDE = -13, BELOW_NOTHING = -14;
    private static final int REGISTERS = 6, ROWS = 3, ROW_MOST = 40, DEEDS_MOST = 16;
    private static final int COUNTED_MOST = 1000;
    private static final int ROOT_MOST = 1000000;

    private final Network network;
    private final Walks walkCounts = new Walks();
    private final Quaternion[] registers;
    private final Quaternion work = new Quaternion();
    private final Book notes = new Book();
    private final Reader reader;
    private final int[][] rows = new int[ROWS][ROW_MOST];
    private final int[] rowSizes = {-1, -1, -1}; // -1: it is missing
    private final int[] visited = new int[Network.MOST]; // 1: yes
    private final int[] deeds = new int[DEEDS_MOST];
    private final Image taken = new Image();
    private int deedCount, place;

    public QuaternionNet() {
        // the reader works on the same registers and steps, and is given them before they are this object's
        Quaternion[] madeRegisters = Quaternion.fresh(REGISTERS);
        Network madeNetwork = new Network();
        reader = new Reader(madeRegisters, madeNetwork.steps);
        registers = madeRegisters;
        network = madeNetwork;
    }

    // ---- registers

    public int put(int r, int a, int b, int c, int d) {
        if (!isRegister(r)) return BAD;
        work.become(a, b, c, d);
        if (!work.fits()) return BAD;
        registers[r].become(work);
        return 1;
    }

    public long part(int r, int i) {
        if (!isRegister(r) || !Quaternion.hasPart(i)) return VOID;
        return registers[r].at(i);
    }

    public long norm(int r) {
        if (!isRegister(r)) return VOID;
        return registers[r].squares();
    }

    public int times(int r, int s, int t) {
        if (!isRegister(r) || !isRegister(s) || !isRegister(t)) return BAD;
        work.becomeProduct(registers[s], registers[t]);
        return layWork(r);
    }

    public int sum(int r, int s, int t, int sign) {
        if (!isRegister(r) || !isRegister(s) || !isRegister(t)) return BAD;
        if (sign != 0 && sign != 1) return BAD;
        work.becomeSum(registers[s], registers[t], sign == 0 ? 1 : -1);
        return layWork(r);
    }

    public int flip(int r) {
        if (!isRegister(r)) return BAD;
        registers[r].conjugate();
        return registers[r].isRight() ? 1 : 0;
    }

    private static boolean isRegister(int r) {
        return r >= 0 && r < REGISTERS;
    }

    private int layWork(int r) {
        if (!work.fits()) return STATE;
        registers[r].become(work);
        return 1;
    }

    // ---- the network

    public int prime(int p) {
        if (p != 5 && p != 13 && p != 17 && p != 29) return BAD;
        if (p == network.modulus) return STATE;
        int was = network.steps.p;
        if (p != was) renew(p, network.modulus);
        return was;
    }

    public int modulus(int q) {
        if (q != 3 && q != 5 && q != 7) return BAD;
        if (q == network.steps.p) return STATE;
        int was = network.modulus;
        if (q != was) renew(network.steps.p, q);
        return was;
    }

    private void renew(int p, int q) {
        network.make(p, q);
        walkCounts.forget();
        place = 0;
        deedCount = 0;
    }

    public long step(int step, int i) {
        if (!network.steps.has(step)) return VOID;
        if (i == Quaternion.PARTS) return network.steps.reverse(step);
        if (!Quaternion.hasPart(i)) return VOID;
        return network.steps.at(step).at(i);
    }

    public int node(int node, int i) {
        if (!network.has(node)) return BAD;
        if (i == Quaternion.PARTS) return network.side(node);
        if (!Quaternion.hasPart(i)) return BAD;
        return network.at(node).at(i);
    }

    public int nodeOf(int r) {
        if (!isRegister(r)) return BAD;
        work.become(registers[r]);
        if (!work.hasClass(network.modulus)) return STATE;
        return network.find(work);
    }

    public int to(int node, int step) {
        if (!network.has(node) || !network.steps.has(step)) return BAD;
        return network.target(node, step);
    }

    public int far(int one, int other) {
        if (!network.has(one) || !network.has(other)) return BAD;
        return network.distance(one, other);
    }

    public int many(int k) {
        if (k < -1) return BAD;
        return k == -1 ? network.farthest() : network.howManyAt(k);
    }

    // ---- counts

    public int ring() {
        for (int n = 1; n <= Walks.LONGEST; n++) {
            if (walkCounts.bare(network, n) > 0) return n;
        }
        return NOT;
    }

    public long walks(int n, int bare) {
        if (n < 0 || n > Walks.LONGEST) return VOID;
        if (bare != 0 && bare != 1) return VOID;
        return bare == 1 ? walkCounts.bare(network, n) : walkCounts.closed(network, n);
    }

    public int counted(int n) {
        if (n < 0 || n > 4) return BAD;
        long norm = power(network.steps.p, n);
        if (norm > COUNTED_MOST) return STATE;
        return howManyRight((int) norm, 2 * network.modulus);
    }

    /** How many have this NORM, a odd and above 0, and b, c, d that are multiples of the unit, which is 6 or more. */
    private static int howManyRight(int norm, int unit) {
        // 6 times 6 is 36, of which the square is above 1000: more than five units either way are never needed
        int found = 0;
        for (int b = -5; b <= 5; b++) {
            for (int c = -5; c <= 5; c++) {
                for (int d = -5; d <= 5; d++) {
                    if (isOddSquare(norm - (b * b + c * c + d * d) * unit * unit)) found++;
                }
            }
        }
        return found;
    }

    private static boolean isOddSquare(int x) {
        for (int a = 1; a * a <= x && a <= COUNTED_MOST; a += 2) {
            if (a * a == x) return true;
        }
        return false;
    }

    public long bound(int n) {
        if (n < 2 || n > Walks.LONGEST || n % 2 != 0) return VOID;
        // nothing here comes near the end of a long: 336 nodes times their closed walks stay below 3 times 30 to the 12
        long all = network.size * walkCounts.closed(network, n);
        long greatest = power(network.steps.size, n);
        return root(all - (network.sides ? 2 * greatest : greatest), n);
    }

    private static long power(long base, int n) {
        long power = 1;
        for (int i = 0; i < n; i++) power *= base;
        return power;
    }

    /** The greatest whole r, 0 or more, of which the power n is no more than x. */
    private static long root(long x, int n) {
        long found = 0;
        for (long r = 1; r <= ROOT_MOST && isPowerWithin(r, n, x); r++) found = r;
        return found;
    }

    private static boolean isPowerWithin(long r, int n, long x) {
        if (r < 1) return true;
        long power = 1;
        for (int i = 0; i < n; i++) {
            // asked by division, since the product itself might be beyond a long
            if (power > x / r) return false;
            power *= r;
        }
        return true;
    }

    // ---- ways and walks

    public int way(int node, int i) {
        if (!network.has(node) || i < -1) return BAD;
        int length = network.distanceFromStart(node);
        if (i == -1) return length;
        return i < length ? network.wayStep(node, i) : NOT;
    }

    public int apart(int r, int i) {
        if (!isRegister(r) || i < -1) return BAD;
        int length = network.steps.takeApart(registers[r]);
        if (length < 0) return STATE;
        if (i == -1) return length;
        return i < length ? network.steps.factor(i) : NOT;
    }

    public int walk(int step) {
        if (!network.steps.has(step)) return BAD;
        keepDeed(place);
        place = network.target(place, step);
        return place;
    }

    private void keepDeed(int from) {
        if (deedCount >= DEEDS_MOST) {
            System.arraycopy(deeds, 1, deeds, 0, DEEDS_MOST - 1);
            deedCount = DEEDS_MOST - 1;
        }
        deeds[deedCount] = from;
        deedCount++;
    }

    public int back() {
        if (deedCount <= 0) return STATE;
        deedCount--;
        place = deeds[deedCount];
        return place;
    }

    // ---- rows of steps

    public int ends(int row) {
        int trouble = troubleOfSteps(row);
        if (trouble != 0) return trouble;
        int at = place;
        for (int i = 0; i < rowSizes[row]; i++) at = network.target(at, rows[row][i]);
        return at;
    }

    public int meets(int row) {
        int trouble = troubleOfSteps(row);
        if (trouble != 0) return trouble;
        Arrays.fill(visited, 0);
        int at = place;
        for (int i = 0; i < rowSizes[row]; i++) {
            visited[at] = 1;
            at = network.target(at, rows[row][i]);
            if (visited[at] == 1) return i;
        }
        return NOT;
    }

    public int product(int r, int row) {
        if (!isRegister(r)) return BAD;
        int trouble = troubleOfSteps(row);
        if (trouble != 0) return trouble;
        work.become(1, 0, 0, 0);
        for (int i = 0; i < rowSizes[row]; i++) {
            work.becomeProduct(work, network.steps.at(rows[row][i]));
            if (!work.fits()) return STATE;
        }
        registers[r].become(work);
        return rowSizes[row];
    }

    public int film(int row, int node) {
        if (!isRow(row) || !network.has(node)) return BAD;
        int length = Math.min(network.distanceFromStart(node), ROW_MOST);
        for (int i = 0; i < length; i++) rows[row][i] = network.wayStep(node, i);
        rowSizes[row] = length;
        return length;
    }

    private static boolean isRow(int row) {
        return row >= 0 && row < ROWS;
    }

    /** Why a ROW can't be gone as STEPS: BAD, -11, or 0 if it can be. */
    private int troubleOfSteps(int row) {
        if (!isRow(row)) return BAD;
        if (rowSizes[row] < 0) return MISSING;
        for (int i = 0; i < rowSizes[row]; i++) {
            if (!network.steps.has(rows[row][i])) return BAD;
        }
        return 0;
    }

    // ---- the book

    public int note(int r) {
        if (!isRegister(r)) return BAD;
        return notes.add(registers[r]);
    }

    public long book(int i, int what) {
        if (i < 0 || i >= notes.size) return VOID;
        if (what == Quaternion.PARTS) return notes.howOften(i);
        if (!Quaternion.hasPart(what)) return VOID;
        return notes.at(i).at(what);
    }

    public int strike(int r) {
        if (!isRegister(r)) return BAD;
        return notes.remove(registers[r]);
    }

    // ---- the tape

    public int feed(int letter) {
        if (letter < 32 || letter > 126) return BAD;
        return reader.append(letter);
    }

    public int wipe() {
        return reader.clear();
    }

    public int read(int r) {
        if (!isRegister(r)) return BAD;
        return reader.readInto(registers[r]);
    }

    public int why(int i, int what) {
        if (i < 0 || what < 0 || what > 1) return BAD;
        if (i >= reader.troubles) return NOT;
        return what == 0 ? reader.sort(i) : reader.number(i);
    }

    // ---- rows of numbers

    public int row(int row, int n) {
        if (!isRow(row) || n > ROW_MOST) return BAD;
        if (n < -1) return BELOW_NOTHING;
        Arrays.fill(rows[row], 0);
        rowSizes[row] = n;
        return 1;
    }

    public int set(int row, int i, int v) {
        if (!isRow(row)) return BAD;
        if (rowSizes[row] < 0) return MISSING;
        if (i < 0 || i >= rowSizes[row]) return OUTSIDE;
        rows[row][i] = v;
        return 1;
    }

    public long get(int row, int i) {
        if (!isRow(row) || i < 0 || i >= rowSizes[row]) return VOID;
        return rows[row][i];
    }

    // ---- the image

    public int image() {
        taken.take(network.steps.p, network.modulus, place);
        Quaternion.copy(registers, taken.registers);
        taken.notes.become(notes);
        return place;
    }

    public int restore() {
        if (!taken.isThere) return STATE;
        if (taken.p != network.steps.p || taken.q != network.modulus) renew(taken.p, taken.q);
        place = taken.place;
        deedCount = 0;
        Quaternion.copy(taken.registers, registers);
        notes.become(taken.notes);
        return place;
    }

    public int count(int what) {
        switch (what) {
            case 0: return network.steps.p;
            case 1: return network.modulus;
            case 2: return network.steps.size;
            case 3: return network.size;
            case 4: return place;
            case 5: return deedCount;
            case 6: return notes.size;
            case 7: return reader.length;
            case 8: return reader.troubles;
            case 9: return network.sides ? 1 : 0;
            default: return BAD;
        }
    }

    // ======== the classes inside

    /** Four parts that can be written over. */
    private static final class Quaternion {
        static final int PARTS = 4;
        private static final int LARGEST = 9999;

        private int a, b, c, d;

        static Quaternion[] fresh(int n) {
            Quaternion[] made = new Quaternion[Math.max(n, 0)];
            for (int i = 0; i < made.length; i++) made[i] = new Quaternion();
            return made;
        }

        static void copy(Quaternion[] from, Quaternion[] into) {
            for (int i = 0; i < from.length && i < into.length; i++) into[i].become(from[i]);
        }

        static boolean hasPart(int i) {
            return i >= 0 && i < PARTS;
        }

        int at(int i) {
            return i == 0 ? a : i == 1 ? b : i == 2 ? c : d;
        }

        void become(int newA, int newB, int newC, int newD) {
            a = newA;
            b = newB;
            c = newC;
            d = newD;
        }

        void become(Quaternion x) {
            become(x.a, x.b, x.c, x.d);
        }

        void becomeProduct(Quaternion x, Quaternion y) {
            become(x.a * y.a - x.b * y.b - x.c * y.c - x.d * y.d,
                   x.a * y.b + x.b * y.a + x.c * y.d - x.d * y.c,
                   x.a * y.c - x.b * y.d + x.c * y.a + x.d * y.b,
                   x.a * y.d + x.b * y.c - x.c * y.b + x.d * y.a);
        }

        void becomeSum(Quaternion x, Quaternion y, int sign) {
            become(x.a + sign * y.a, x.b + sign * y.b, x.c + sign * y.c, x.d + sign * y.d);
        }

        void conjugate() {
            become(a, -b, -c, -d);
        }

        void divide(int by) {
            if (by == 0) return;
            become(a / by, b / by, c / by, d / by);
        }

        int squares() {
            return a * a + b * b + c * c + d * d;
        }

        boolean fits() {
            return fits(a) && fits(b) && fits(c) && fits(d);
        }

        private static boolean fits(int part) {
            return part >= -LARGEST && part <= LARGEST;
        }

        boolean isRight() {
            return (a & 1) == 1 && ((b | c | d) & 1) == 0;
        }

        boolean isMultiple(int of) {
            if (of == 0) return false;
            return a % of == 0 && b % of == 0 && c % of == 0 && d % of == 0;
        }

        boolean isLike(Quaternion x) {
            return a == x.a && b == x.b && c == x.c && d == x.d;
        }

        boolean hasClass(int q) {
            return q != 0 && squares() % q != 0;
        }

        /** Becomes its CLASS modulo q. */
        void becomeClass(int q) {
            if (q == 0) return;
            become(Math.floorMod(a, q), Math.floorMod(b, q), Math.floorMod(c, q), Math.floorMod(d, q));
            int factor = inverse(a != 0 ? a : b != 0 ? b : c != 0 ? c : d, q);
            become(a * factor % q, b * factor % q, c * factor % q, d * factor % q);
        }

        private static int inverse(int x, int q) {
            for (int i = 1; i < q; i++) {
                if (x * i % q == 1) return i;
            }
            return 0;
        }
    }

    /** All STEPS of a NORM p, and what is taken apart into them. */
    private static final class Steps {
        static final int MOST = 30;
        private static final int LARGEST_PART = 4, APART_MOST = 12;

        private final Quaternion[] steps = Quaternion.fresh(MOST);
        private final int[] reverses = new int[MOST];
        private final int[] factors = new int[APART_MOST];
        private final Quaternion rest = new Quaternion(), trial = new Quaternion();
        private int p, size;

        void make(int newP) {
            p = newP;
            size = 0;
            for (int a = 1; a <= LARGEST_PART + 1; a += 2) {
                for (int b = -LARGEST_PART; b <= LARGEST_PART; b += 2) {
                    for (int c = -LARGEST_PART; c <= LARGEST_PART; c += 2) makeWith(a, b, c);
                }
            }
            for (int step = 0; step < size; step++) {
                trial.become(steps[step]);
                trial.conjugate();
                reverses[step] = find(trial);
            }
        }

        private void makeWith(int a, int b, int c) {
            for (int d = -LARGEST_PART; d <= LARGEST_PART; d += 2) {
                trial.become(a, b, c, d);
                if (trial.squares() == p && size < MOST) {
                    steps[size].become(trial);
                    size++;
                }
            }
        }

        private int find(Quaternion x) {
            for (int step = 0; step < size; step++) {
                if (steps[step].isLike(x)) return step;
            }
            return 0;
        }

        boolean has(int step) {
            return step >= 0 && step < size;
        }

        Quaternion at(int step) {
            return steps[step];
        }

        int reverse(int step) {
            return reverses[step];
        }

        int factor(int i) {
            return factors[i];
        }

        /** Takes x APART into factors: how many they are; -1 if it can't be. */
        int takeApart(Quaternion x) {
            int n = exponent(x.squares());
            if (n < 0 || !x.isRight() || x.isMultiple(p)) return -1;
            rest.become(x);
            for (int i = 0; i < n; i++) {
                factors[i] = splitFirst();
            }
            return n;
        }

        private int exponent(int norm) {
            long power = 1;
            for (int n = 0; n <= APART_MOST; n++) {
                if (power == norm) return n;
                power *= p;
            }
            return -1;
        }

        /** Takes the first STEP off the rest: the only one whose REVERSE ahead of the rest makes a multiple of p. */
        private int splitFirst() {
            for (int step = 0; step < size; step++) {
                trial.becomeProduct(steps[reverses[step]], rest);
                if (trial.isMultiple(p)) {
                    trial.divide(p);
                    rest.become(trial);
                    return step;
                }
            }
            return 0;
        }
    }

    /** THE NETWORK of p and q. */
    private static final class Network {
        static final int MOST = 336;
        private static final int CODES = 7 * 7 * 7 * 7;

        private final Steps steps = new Steps();
        private final Quaternion[] nodes = Quaternion.fresh(MOST);
        private final int[] numbers = new int[CODES];
        private final int[] targets = new int[MOST * Steps.MOST];
        private final int[] distances = new int[MOST], parents = new int[MOST], lastSteps = new int[MOST];
        private final Quaternion work = new Quaternion();
        private int modulus, size;
        private boolean sides;

        Network() {
            make(5, 3);
        }

        void make(int p, int q) {
            modulus = q;
            steps.make(p);
            Arrays.fill(numbers, NOT);
            size = 0;
            work.become(1, 0, 0, 0);
            enter(0, 0, 0);
            for (int node = 0; node < size && node < MOST; node++) explore(node);
            sides = areSides();
        }

        private void explore(int node) {
            for (int step = 0; step < steps.size; step++) {
                work.becomeProduct(nodes[node], steps.at(step));
                work.becomeClass(modulus);
                int target = numberOfWork();
                if (target < 0) target = enter(node, step, distances[node] + 1);
                targets[node * Steps.MOST + step] = target;
            }
        }

        /** The CLASS in work becomes the next NODE. */
        private int enter(int parent, int step, int distance) {
            int code = codeOfWork();
            if (size >= MOST || code < 0 || code >= CODES) return 0;
            numbers[code] = size;
            nodes[size].become(work);
            parents[size] = parent;
            lastSteps[size] = step;
            distances[size] = distance;
            return size++;
        }

        private int codeOfWork() {
            return ((work.a * modulus + work.b) * modulus + work.c) * modulus + work.d;
        }

        private int numberOfWork() {
            int code = codeOfWork();
            return code >= 0 && code < CODES ? numbers[code] : NOT;
        }

        private boolean areSides() {
            for (int node = 0; node < size; node++) {
                for (int step = 0; step < steps.size; step++) {
                    if (parity(node) == parity(target(node, step))) return false;
                }
            }
            return true;
        }

        private int parity(int node) {
            return distances[node] & 1;
        }

        boolean has(int node) {
            return node >= 0 && node < size;
        }

        Quaternion at(int node) {
            return nodes[node];
        }

        int side(int node) {
            return sides ? parity(node) : NOT;
        }

        /** The NODE that is the CLASS of x, or NOT. */
        int find(Quaternion x) {
            work.become(x);
            work.becomeClass(modulus);
            return numberOfWork();
        }

        int target(int node, int step) {
            return targets[node * Steps.MOST + step];
        }

        int distanceFromStart(int node) {
            return distances[node];
        }

        int distance(int one, int other) {
            // the rows of STEPS that lead from the one to the other are those that lead from NODE 0 to this product
            work.become(nodes[one]);
            work.conjugate();
            work.becomeProduct(work, nodes[other]);
            work.becomeClass(modulus);
            int node = numberOfWork();
            return node < 0 ? NOT : distances[node];
        }

        int farthest() {
            // NODES come by growing distance
            return size > 0 ? distances[size - 1] : 0;
        }

        int howManyAt(int distance) {
            int found = 0;
            for (int node = 0; node < size; node++) {
                if (distances[node] == distance) found++;
            }
            return found;
        }

        /** STEP i of the WAY to a NODE; i from 0 on, less than the NODE's distance. */
        int wayStep(int node, int i) {
            // the way by which a NODE was first come to is the first by numbers too, since STEPS are tried in their order
            int at = node;
            for (int k = distances[node] - 1; k > i; k--) at = parents[at];
            return lastSteps[at];
        }
    }

    /** How many CLOSED WALKS there are of each length, worked out when first asked for. */
    private static final class Walks {
        static final int LONGEST = 12;

        private final long[] closed = new long[LONGEST + 1], bare = new long[LONGEST + 1];
        private long[] now = new long[Network.MOST], before = new long[Network.MOST], next = new long[Network.MOST];
        private boolean known;

        void forget() {
            known = false;
        }

        long closed(Network network, int n) {
            learn(network);
            return closed[n];
        }

        long bare(Network network, int n) {
            learn(network);
            return bare[n];
        }

        private void learn(Network network) {
            if (known) return;
            fill(network, false, closed);
            fill(network, true, bare);
            known = true;
        }

        private void fill(Network network, boolean onlyBare, long[] counts) {
            Arrays.fill(before, 0);
            Arrays.fill(now, 0);
            now[0] = 1;
            counts[0] = 1;
            for (int n = 1; n <= LONGEST; n++) {
                advance(network, onlyBare ? returns(network, n) : 0);
                counts[n] = now[0];
            }
        }

        /**
         * By how many rows each BARE WALK of n - 2 STEPS is gone on by a STEP and its REVERSE: the first of these two
         * may be any but the REVERSE of the one ahead of it, if there is one.
         */
        private static long returns(Network network, int n) {
            if (n < 2) return 0;
            return n == 2 ? network.steps.size : network.steps.size - 1;
        }

        /** One STEP on: how many WALKS end at each NODE, less those that came back from where they were before. */
        private void advance(Network network, long returning) {
            for (int node = 0; node < network.size; node++) next[node] = -returning * before[node];
            for (int node = 0; node < network.size; node++) {
                for (int step = 0; step < network.steps.size; step++) {
                    next[network.target(node, step)] += now[node];
                }
            }
            long[] free = before;
            before = now;
            now = next;
            next = free;
        }
    }

    /** THE BOOK. */
    private static final class Book {
        static final int MOST = 7;

        private final Quaternion[] noted = Quaternion.fresh(MOST);
        private final int[] often = new int[MOST];
        private int size;

        private int find(Quaternion x) {
            for (int i = 0; i < size; i++) {
                if (noted[i].isLike(x)) return i;
            }
            return NOT;
        }

        Quaternion at(int i) {
            return noted[i];
        }

        int howOften(int i) {
            return often[i];
        }

        int add(Quaternion x) {
            int i = find(x);
            if (i < 0) {
                if (size >= MOST) return FULL;
                i = size;
                size++;
                noted[i].become(x);
                often[i] = 0;
            }
            often[i]++;
            return often[i];
        }

        int remove(Quaternion x) {
            int i = find(x);
            if (i < 0) return NOT;
            int was = often[i];
            for (int k = i; k + 1 < size; k++) {
                noted[k].become(noted[k + 1]);
                often[k] = often[k + 1];
            }
            size--;
            return was;
        }

        void become(Book other) {
            size = other.size;
            Quaternion.copy(other.noted, noted);
            System.arraycopy(other.often, 0, often, 0, MOST);
        }
    }

    /** THE IMAGE. */
    private static final class Image {
        private final Quaternion[] registers = Quaternion.fresh(REGISTERS);
        private final Book notes = new Book();
        private boolean isThere;
        private int p, q, place;

        void take(int newP, int newQ, int newPlace) {
            isThere = true;
            p = newP;
            q = newQ;
            place = newPlace;
        }
    }

    /** THE TAPE, and the reading of it: one way over the text that looks for a FAULT and works the text out at once. */
    private static final class Reader {
        private static final int MOST = 80, GROUPS = 4, END = -1;
        private static final int FAULT = 1, GROUP = 2, BEYOND = 3, NO_STEP = 4;

        private final Quaternion[] registers;
        private final Steps steps;
        private final int[] tape = new int[MOST];
        private final int[] opened = new int[GROUPS];
        private final int[] sorts = new int[GROUPS + 1], numbers = new int[GROUPS + 1];
        // one of each for every depth of groups, so that an outer one waits while an inner one is worked out
        private final Quaternion[] sums = Quaternion.fresh(GROUPS + 1);
        private final Quaternion[] terms = Quaternion.fresh(GROUPS + 1);
        private final Quaternion[] factors = Quaternion.fresh(GROUPS + 1);
        private final int[] literal = new int[Quaternion.PARTS];
        private int length, at, trouble, troubles;

        Reader(Quaternion[] theRegisters, Steps theSteps) {
            registers = theRegisters;
            steps = theSteps;
        }

        int append(int letter) {
            if (length >= MOST) return FULL;
            tape[length] = letter;
            length++;
            return length;
        }

        int clear() {
            int had = length;
            length = 0;
            return had;
        }

        int sort(int i) {
            return sorts[i];
        }

        int number(int i) {
            return numbers[i];
        }

        int readInto(Quaternion target) {
            at = 0;
            trouble = 0;
            if (readSum(0) && at < length) fault(0);
            clear();
            if (trouble == FAULT) return -100 - at;
            if (trouble == BEYOND) return STATE;
            if (trouble == NO_STEP) return NOT;
            target.become(sums[0]);
            return 1;
        }

        // Each of these answers false at a FAULT, with the place of it in at. The depth is how many groups are open.

        private boolean readSum(int depth) {
            if (!readTerm(depth)) return false;
            sums[depth].become(terms[depth]);
            while (at < length && (tape[at] == '+' || tape[at] == '-')) {
                int sign = at;
                at++;
                if (!readTerm(depth)) return false;
                sums[depth].becomeSum(sums[depth], terms[depth], tape[sign] == '+' ? 1 : -1);
                check(sums[depth], depth, sign);
            }
            return true;
        }

        private boolean readTerm(int depth) {
            if (!readFactor(depth)) return false;
            terms[depth].become(factors[depth]);
            while (at < length && tape[at] == '*') {
                int sign = at;
                at++;
                if (!readFactor(depth)) return false;
                terms[depth].becomeProduct(terms[depth], factors[depth]);
                check(terms[depth], depth, sign);
            }
            return true;
        }

        private boolean readFactor(int depth) {
            boolean flipped = false;
            while (at < length && tape[at] == '~') {
                flipped = !flipped;
                at++;
            }
            if (!readPlain(depth)) return false;
            if (flipped) factors[depth].conjugate();
            return true;
        }

        private boolean readPlain(int depth) {
            switch (here()) {
                case '(': return readGroup(depth);
                case 'r': return readRegister(depth);
                case 'g': return readStep(depth);
                case '[': return readLiteral(depth);
                default: return fault(depth);
            }
        }

        private boolean readGroup(int depth) {
            if (depth < 0 || depth >= GROUPS) return fault(depth);
            opened[depth] = at;
            at++;
            if (!readSum(depth + 1)) return false;
            if (here() != ')') return fault(depth + 1);
            at++;
            factors[depth].become(sums[depth + 1]);
            return true;
        }

        private boolean readRegister(int depth) {
            at++;
            if (!isFigure() || figure() >= registers.length) return fault(depth);
            factors[depth].become(registers[figure()]);
            at++;
            return true;
        }

        private boolean readStep(int depth) {
            at++;
            if (!isFigure()) return fault(depth);
            int step = readFigures(2);
            if (steps.has(step)) {
                factors[depth].become(steps.at(step));
            } else {
                complain(NO_STEP, step, depth);
            }
            return true;
        }

        private boolean readLiteral(int depth) {
            for (int i = 0; i < literal.length; i++) {
                // ahead of each number stands its bracket or comma
                if (here() != (i == 0 ? '[' : ',')) return fault(depth);
                at++;
                boolean below = here() == '-';
                if (below) at++;
                if (!isFigure()) return fault(depth);
                int number = readFigures(4);
                literal[i] = below ? -number : number;
            }
            if (here() != ']') return fault(depth);
            at++;
            factors[depth].become(literal[0], literal[1], literal[2], literal[3]);
            return true;
        }

        private int readFigures(int most) {
            int number = 0;
            for (int i = 0; i < most && isFigure(); i++) {
                number = number * 10 + figure();
                at++;
            }
            return number;
        }

        private int here() {
            return at >= 0 && at < length ? tape[at] : END;
        }

        private boolean isFigure() {
            return here() >= '0' && here() <= '9';
        }

        private int figure() {
            return here() - '0';
        }

        private void check(Quaternion x, int depth, int sign) {
            if (!x.fits()) complain(BEYOND, sign, depth);
        }

        /** Only the first trouble of the working out counts. */
        private void complain(int sort, int number, int depth) {
            if (trouble == 0) tell(sort, number, depth);
        }

        /** A FAULT counts also behind other trouble. */
        private boolean fault(int depth) {
            tell(FAULT, at, depth);
            return false;
        }

        private void tell(int sort, int number, int depth) {
            trouble = sort;
            troubles = 0;
            for (int i = 0; i < depth && i < GROUPS; i++) addTrouble(GROUP, opened[i]);
            addTrouble(sort, number);
        }

        private void addTrouble(int sort, int number) {
            if (troubles >= sorts.length) return;
            sorts[troubles] = sort;
            numbers[troubles] = number;
            troubles++;
        }
    }
}
