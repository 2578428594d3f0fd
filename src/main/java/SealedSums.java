import java.util.NoSuchElementException;

/** A house that works on sealed numbers; the document's promises say what each call does. */
public final class SealedSums {
    public static final int NONE = -1;

    private static final int DROWNED = -2;
    private static final int DEAD = -3;
    private static final int TOO_DEAR = -4;
    private static final int NO_STEP = -100;
    private static final int NO_NOISE = -1000000;

    private static final int MOST_KEYS = 4;
    private static final int MOST_PROGRAMS = 4;
    private static final int MOST_INS = 6;
    private static final int MOST_INS_COMPARED = 4;
    private static final int MOST_BUDGET = 10000;
    private static final int MOST_WIDTH = 5;

    // What a sealed one came from, and what a WORK does: the document's own numbers.
    private static final int FRESH = 0;
    private static final int SUM = 1;
    private static final int LESS = 2;
    private static final int PRODUCT = 3;
    private static final int PLUS = 4;
    private static final int TIMES = 5;
    private static final int ANEW = 6;
    private static final int OUT = 7;

    private static final int NO_FAULT = 0;
    private static final int FAULT_SYNTAX = 1;
    private static final int FAULT_ROOM = 2;
    private static final int FAULT_TWICE = 3;
    private static final int FAULT_NAME = 4;
    private static final int FAULT_WRONG = 5;
    private static final int FAULT_WORKS = 6;

    private final int t;
    private final Tape tape = new Tape();
    private final Grammar grammar = new Grammar();
    private final Names names;
    private final Maker maker;
    private int faultPlace = NONE;
    private final Key[] keys = new Key[MOST_KEYS];
    private int keyCount = 0;
    private final SealedRows rows = new SealedRows();
    private final Program[] programs = new Program[MOST_PROGRAMS];
    private int programCount = 0;
    private final int[] givenIns = new int[MOST_INS];
    private final Desk desk;
    private final int[] restCounts = new int[Key.MOST_RESTS];
    /** What differ() found of two PROGRAMS, which never change; NONE while it is not known. */
    private final int[] differences = new int[MOST_PROGRAMS * MOST_PROGRAMS];
    private int budgetLeft = 0;

    public SealedSums(int t) {
        this.t = t < 2 || t > 13 ? 2 : t;
        names = new Names(this.t);
        maker = new Maker(this.t);
        desk = new Desk(this.t);
        for (int i = 0; i < MOST_KEYS; i++) {
            keys[i] = new Key();
        }
        for (int i = 0; i < MOST_PROGRAMS; i++) {
            programs[i] = new Program();
        }
        for (int i = 0; i < MOST_INS; i++) {
            givenIns[i] = NONE;
        }
        for (int i = 0; i < differences.length; i++) {
            differences[i] = NONE;
        }
    }

    // ---- the tape ----

    public int feed(int a, int b, int c, int d, int e) {
        if (!tape.hasRoomForFive()) {
            return NONE;
        }
        tape.append(a);
        tape.append(b);
        tape.append(c);
        tape.append(d);
        tape.append(e);
        return tape.length;
    }

    public int back(int n) {
        if (n < 0 || n > tape.length) {
            return NONE;
        }
        tape.length -= n;
        return tape.length;
    }

    public int read() {
        if (programCount >= MOST_PROGRAMS) {
            return -2;
        }
        // Three goes, a later one only if all before went well: the form, the names, the works.
        int fault = grammar.check(tape);
        faultPlace = grammar.faultPlace;
        if (fault == NO_FAULT) {
            fault = names.check(grammar.tokens);
            faultPlace = names.faultPlace;
        }
        if (fault == NO_FAULT) {
            fault = maker.make(grammar, names, programs[programCount]);
            faultPlace = maker.faultPlace;
        }
        tape.length = 0;
        programCount += fault == NO_FAULT ? 1 : 0;
        return fault;
    }

    public int place() {
        return faultPlace;
    }

    // ---- lots, keys, sealed ones ----

    public int lot(int seed, int which, int n) {
        return n < 1 || n > 1000000 ? NONE : Numbers.drawn(seed, which, n);
    }

    public int key(int p, int q, int b) {
        if (keyCount >= MOST_KEYS || !Key.canBe(p, q, b)) {
            return NONE;
        }
        keys[keyCount].becomes(p, q, b);
        keyCount++;
        return keyCount - 1;
    }

    public boolean dead(int key) {
        if (!isAlive(key)) {
            return false;
        }
        keys[key].alive = false;
        return true;
    }

    public int mask(int key, int m, int seed) {
        if (!isAlive(key) || !isPlain(m)) {
            return NONE;
        }
        return addFresh(key, m, seed, FRESH);
    }

    public int work(int kind, int a, int b) {
        if (kind < 0 || kind > 2 || !isSealed(a) || !isSealed(b)) {
            return NONE;
        }
        if (rows.key[a] != rows.key[b] || !isAlive(rows.key[a])) {
            return NONE;
        }
        return addWorked(kind + 1, a, rows.c[b], rows.bound[b]);
    }

    public int plain(int kind, int a, int k) {
        if (!isSealed(a) || !isAlive(rows.key[a]) || !isPlainWork(kind, k)) {
            return NONE;
        }
        return addWorked(kind + 1, a, k, k);
    }

    public int anew(int a, int key, int seed) {
        if (rows.isFull() || !isSealed(a) || !isAlive(key) || !isAlive(rows.key[a])) {
            return NONE;
        }
        if (isDrowned(a)) {
            return DROWNED;
        }
        return addFresh(key, opened(a), seed, ANEW);
    }

    public int sealed(int a, int what) throws NoSuchElementException, IllegalArgumentException {
        if (!isSealed(a)) {
            throw new NoSuchElementException("no such sealed one");
        }
        switch (what) {
            case 0:
                return rows.key[a];
            case 1:
                return rows.c[a];
            case 2:
                return rows.bound[a];
            case 3:
                return isDrowned(a) ? 1 : 0;
            case 4:
                return rows.kind[a];
            default:
                throw new IllegalArgumentException("no such what");
        }
    }

    public int noise(int a) {
        return isSealed(a) ? keys[rows.key[a]].noiseOf(rows.c[a]) : NO_NOISE;
    }

    public int open(int a) {
        if (!isSealed(a)) {
            return NONE;
        }
        if (!isAlive(rows.key[a])) {
            return DEAD;
        }
        return isDrowned(a) ? DROWNED : opened(a);
    }

    public boolean budget(int v) {
        if (v < 0 || v > MOST_BUDGET) {
            return false;
        }
        budgetLeft = v;
        return true;
    }

    public int opening(int s, int a, int seed) {
        if (!isSealed(s) || a < 0 || a > MOST_WIDTH) {
            return NONE;
        }
        int plainly = open(s);
        if (plainly < 0) {
            return plainly;
        }
        int takes = 60 / (a + 1);
        if (budgetLeft < takes) {
            return TOO_DEAR;
        }
        budgetLeft -= takes;
        return Numbers.rest(plainly + Numbers.drawn(seed, 2, 2 * a + 1) - a, t);
    }

    // ---- programs ----

    public int works(int program) {
        return isProgram(program) ? programs[program].works : NONE;
    }

    public int step(int program, int k, int what) {
        if (!isProgram(program) || k < 0 || k >= programs[program].works) {
            return NO_STEP;
        }
        switch (what) {
            case 0:
                return programs[program].kind[k];
            case 1:
                return Program.toldCode(programs[program].first[k]);
            case 2:
                return programs[program].toldSecond(k);
            default:
                return NO_STEP;
        }
    }

    public int outs(int program, int k) {
        return hasOut(program, k) ? Program.toldCode(programs[program].out[k]) : NO_STEP;
    }

    public int cost(int program, int laying) {
        return hasLaying(program, laying) ? programs[program].priceOf(laying) : NONE;
    }

    public int holds(int program, int key, int laying) {
        if (!hasLaying(program, laying) || !isKey(key)) {
            return NONE;
        }
        return desk.staysAfloat(programs[program], keys[key], laying) ? 1 : 0;
    }

    public int best(int program, int key) {
        if (!isProgram(program) || !isKey(key) || programs[program].works > Program.MOST_LAID) {
            return NONE;
        }
        return desk.bestLaying(programs[program], keys[key]);
    }

    public boolean given(int in, int s) {
        if (in < 0 || in >= MOST_INS || !isSealed(s)) {
            return false;
        }
        givenIns[in] = s;
        return true;
    }

    public int run(int program, int laying, int seed) {
        if (!hasLaying(program, laying)) {
            return NONE;
        }
        Program ran = programs[program];
        int key = keyOfGivenIns(ran.ins);
        if (!isAlive(key) || !rows.hasRoomFor(ran.outs)) {
            return NONE;
        }
        for (int i = 0; i < ran.ins; i++) {
            desk.takeIn(i, rows.c[givenIns[i]], rows.bound[givenIns[i]]);
        }
        if (!desk.runs(ran, keys[key], laying, seed)) {
            return DROWNED;
        }
        int first = rows.count;
        for (int i = 0; i < ran.outs; i++) {
            addOut(key, ran.out[i], seed + 1000 + i);
        }
        return first;
    }

    public int openly(int program, int out, int v) {
        if (!hasOut(program, out) || v < 0 || v >= desk.plainInputs(programs[program].ins)) {
            return NONE;
        }
        desk.setPlainIns(v);
        desk.workOpenly(programs[program]);
        return desk.plainOut(programs[program], out);
    }

    public int differ(int one, int other) {
        if (!isProgram(one) || !isProgram(other)) {
            return NONE;
        }
        Program a = programs[one];
        Program b = programs[other];
        if (a.ins != b.ins || a.ins > MOST_INS_COMPARED || a.outs != b.outs) {
            return NONE;
        }
        int pair = one * MOST_PROGRAMS + other;
        if (differences[pair] == NONE) {
            differences[pair] = desk.differing(a, b);
        }
        return differences[pair];
    }

    // ---- checks, parts, evenness ----

    public int checks(int n, int w, int r, int what) {
        if (n < 1 || n > 20 || w < 0 || w > n || r < 0 || r > n) {
            return NONE;
        }
        switch (what) {
            case 0:
                return Numbers.choices(n, r);
            case 1:
                return Numbers.choices(n - w, r);
            default:
                return NONE;
        }
    }

    public boolean parts(int key, int n, int k, int seed) {
        if (!isKey(key) || n < 2 || n > Parts.MOST_PARTS || k < 1 || k > n) {
            return false;
        }
        keys[key].shares.deal(keys[key].p, n, k, seed);
        return true;
    }

    public int part(int key, int i) {
        return hasPart(key, i) ? keys[key].shares.y[i] : NONE;
    }

    public boolean spoil(int key, int i, int v) {
        if (!hasPart(key, i) || v < 0 || v >= Parts.PRIME) {
            return false;
        }
        keys[key].shares.y[i] = v;
        return true;
    }

    public int joined(int key, int set) {
        if (!hasParts(key) || set < 0 || set > keys[key].shares.all()) {
            return NONE;
        }
        Parts shares = keys[key].shares;
        return Integer.bitCount(set) < shares.needed ? -2 : shares.valueAt(set, 0);
    }

    public int who(int key) {
        return hasParts(key) ? keys[key].shares.wrongOne() : NONE;
    }

    public int even(int key, int m, int w) {
        if (!isKey(key) || !isPlain(m) || w < 2 || w > Key.MOST_RESTS) {
            return NONE;
        }
        keys[key].countRests(t, m, w, restCounts);
        int greatest = restCounts[0];
        int least = restCounts[0];
        for (int i = 1; i < w; i++) {
            greatest = Math.max(greatest, restCounts[i]);
            least = Math.min(least, restCounts[i]);
        }
        return greatest - least;
    }

    public int count(int what) {
        switch (what) {
            case 0:
                return keyCount;
            case 1:
                return rows.count;
            case 2:
                return programCount;
            case 3:
                return tape.length;
            case 4:
                return budgetLeft;
            case 5:
                return t;
            default:
                return countOfProgram(what);
        }
    }

    // ---- what the calls above ask again and again ----

    private int countOfProgram(int what) {
        // 'what' may be near the least int: only numbers from 10 on are taken from.
        if (what >= 10 && isProgram(what - 10)) {
            return programs[what - 10].ins;
        }
        if (what >= 20 && isProgram(what - 20)) {
            return programs[what - 20].outs;
        }
        return NONE;
    }

    private boolean isPlain(int m) {
        return m >= 0 && m < t;
    }

    private boolean isPlainWork(int kind, int k) {
        return kind == 3 ? isPlain(k) : kind == 4 && k >= -t && k <= t;
    }

    private boolean isKey(int key) {
        return key >= 0 && key < keyCount;
    }

    private boolean isAlive(int key) {
        return isKey(key) && keys[key].alive;
    }

    private boolean isSealed(int a) {
        return a >= 0 && a < rows.count;
    }

    private boolean isDrowned(int a) {
        return keys[rows.key[a]].drowns(rows.bound[a]);
    }

    private int opened(int a) {
        return keys[rows.key[a]].openedOf(rows.c[a], t);
    }

    private int addFresh(int key, int m, int seed, int kind) {
        return rows.add(key, keys[key].freshC(t, m, seed), keys[key].freshBound(t), kind);
    }

    private int addWorked(int kind, int a, int otherC, int otherBound) {
        int key = rows.key[a];
        int c = Numbers.worked(kind, rows.c[a], otherC, keys[key].modulus());
        int bound = Numbers.workedBound(kind, rows.bound[a], otherBound);
        return rows.add(key, c, bound, kind);
    }

    private void addOut(int key, int code, int seed) {
        if (Program.isOpen(code)) {
            addFresh(key, Program.openNumber(code), seed, OUT);
        } else {
            rows.add(key, desk.c[code], desk.bound[code], OUT);
        }
    }

    private boolean isProgram(int program) {
        return program >= 0 && program < programCount;
    }

    private boolean hasOut(int program, int k) {
        return isProgram(program) && k >= 0 && k < programs[program].outs;
    }

    private boolean hasLaying(int program, int laying) {
        return isProgram(program) && programs[program].canLay(laying);
    }

    /** The one KEY of the first ins that were given; NONE without ins, if one is missing, of two KEYS. */
    private int keyOfGivenIns(int ins) {
        int key = NONE;
        for (int i = 0; i < ins && i < MOST_INS; i++) {
            if (!isSealed(givenIns[i])) {
                return NONE;
            }
            int its = rows.key[givenIns[i]];
            if (i > 0 && its != key) {
                return NONE;
            }
            key = its;
        }
        return key;
    }

    private boolean hasParts(int key) {
        return isKey(key) && keys[key].shares.dealt > 0;
    }

    private boolean hasPart(int key, int i) {
        return hasParts(key) && i >= 1 && i <= keys[key].shares.dealt;
    }

    /** Sums by a modulus, lots, and the works themselves. */
    private static final class Numbers {
        static final int MOST_BOUND = 1000000;

        static int rest(long number, int by) {
            if (by < 1) {
                return 0;
            }
            long rest = number % by;
            return (int) (rest < 0 ? rest + by : rest);
        }

        static int quotient(int number, int by) {
            return by < 1 ? 0 : number / by;
        }

        static int drawn(int seed, int which, int n) {
            return rest(stirred(stirred(seed, 7), which) >>> 1, n);
        }

        private static int stirred(int h, int it) {
            int mixed = (h ^ it) * 1103515245 + 12345;
            return mixed ^ (mixed >>> 15);
        }

        /** A WORK on C's by a KEY's modulus, or on plain numbers by T; PLUS and TIMES have k as b. */
        static int worked(int kind, int a, int b, int by) {
            switch (kind) {
                case SUM:
                case PLUS:
                    return rest((long) a + b, by);
                case LESS:
                    return rest((long) a - b, by);
                default:
                    return rest((long) a * b, by);
            }
        }

        static int workedBound(int kind, int a, int b) {
            long without = Math.abs((long) b);
            boolean multiplies = kind == PRODUCT || kind == TIMES;
            return (int) Math.min(MOST_BOUND, multiplies ? a * without : a + without);
        }

        static int power(int base, int exponent, int by) {
            int result = rest(1, by);
            int square = rest(base, by);
            for (int left = exponent; left > 0; left >>= 1) {
                if ((left & 1) == 1) {
                    result = rest((long) result * square, by);
                }
                square = rest((long) square * square, by);
            }
            return result;
        }

        static int choices(int n, int r) {
            if (r > n) {
                return 0;
            }
            long ways = 1;
            for (int i = 1; i <= r; i++) {
                ways = ways * (n - r + i) / i;
            }
            return (int) ways;
        }
    }

    private static final class Tape {
        static final int MOST_BYTES = 2000;

        private final byte[] bytes = new byte[MOST_BYTES];
        int length = 0;

        boolean hasRoomForFive() {
            return length + 20 <= MOST_BYTES;
        }

        void append(int four) {
            for (int shift = 24; shift >= 0 && length < MOST_BYTES; shift -= 8) {
                bytes[length] = (byte) (four >> shift);
                length++;
            }
        }

        /** 256, which is no byte, behind the end. */
        int at(int place) {
            return place >= 0 && place < length ? bytes[place] & 255 : 256;
        }
    }

    private static final class Key {
        static final int MOST_RESTS = 16;

        int p = 101;
        int q = 10;
        int b = 0;
        boolean alive = false;
        final Parts shares = new Parts();

        static boolean canBe(int p, int q, int b) {
            return p >= 101 && p <= 99999 && p % 2 == 1 && p % 3 != 0 && p % 5 != 0 && p % 7 != 0
                && p % 11 != 0 && p % 13 != 0 && q >= 10 && q <= 1000 && b >= 0 && b <= 10;
        }

        void becomes(int newP, int newQ, int newB) {
            p = newP;
            q = newQ;
            b = newB;
            alive = true;
        }

        int modulus() {
            return p * q;
        }

        int freshBound(int t) {
            return t * b + t - 1;
        }

        int freshC(int t, int m, int seed) {
            int e = Numbers.drawn(seed, 1, 2 * b + 1) - b;
            return maskedC(t, m, Numbers.drawn(seed, 0, q), e);
        }

        private int maskedC(int t, int m, int r, int e) {
            return Numbers.rest((long) p * r + t * e + m, modulus());
        }

        int noiseOf(int c) {
            int rest = Numbers.rest(c, p);
            return 2 * rest > p ? rest - p : rest;
        }

        int openedOf(int c, int t) {
            return Numbers.rest(noiseOf(c), t);
        }

        boolean drowns(int bound) {
            return 2 * bound >= p;
        }

        void countRests(int t, int m, int w, int[] counts) {
            for (int i = 0; i < counts.length; i++) {
                counts[i] = 0;
            }
            for (int r = 0; r < q; r++) {
                for (int e = -b; e <= b; e++) {
                    int rest = Numbers.rest(maskedC(t, m, r, e), w);
                    if (rest < counts.length) {
                        counts[rest]++;
                    }
                }
            }
        }
    }

    /** A KEY's PARTS: points of a polynomial over a prime, whose value at 0 is the KEY's P. */
    private static final class Parts {
        static final int PRIME = 100003;
        static final int MOST_PARTS = 6;

        /** y of part i stands at i; 0 is left free. */
        final int[] y = new int[MOST_PARTS + 1];
        int dealt = 0;
        int needed = 0;

        void deal(int p, int n, int k, int seed) {
            dealt = Math.min(n, MOST_PARTS);
            needed = k;
            for (int i = 1; i <= dealt; i++) {
                long sum = 0;
                for (int j = k - 1; j >= 1; j--) {
                    sum = Numbers.rest((sum + Numbers.drawn(seed, j, PRIME)) * i, PRIME);
                }
                y[i] = Numbers.rest(sum + p, PRIME);
            }
        }

        int all() {
            return (1 << dealt) - 1;
        }

        private boolean holdsPart(int set, int i) {
            return ((set >> (i - 1)) & 1) == 1;
        }

        /** The least parts of a set, as many as are needed. */
        private int firstNeeded(int set) {
            int kept = 0;
            int left = needed;
            for (int i = 1; i <= dealt && left > 0; i++) {
                if (holdsPart(set, i)) {
                    kept |= 1 << (i - 1);
                    left--;
                }
            }
            return kept;
        }

        /** At x, the polynomial of least degree through the first needed parts of a set. */
        int valueAt(int set, int x) {
            int points = firstNeeded(set);
            long sum = 0;
            for (int i = 1; i <= dealt; i++) {
                if (holdsPart(points, i)) {
                    sum += (long) y[i] * weightAt(points, i, x);
                    sum = Numbers.rest(sum, PRIME);
                }
            }
            return (int) sum;
        }

        /** 1 at part i, 0 at the other points. */
        private int weightAt(int points, int i, int x) {
            int above = 1;
            int below = 1;
            for (int j = 1; j <= dealt; j++) {
                if (j != i && holdsPart(points, j)) {
                    above = Numbers.rest((long) above * (x - j), PRIME);
                    below = Numbers.rest((long) below * (i - j), PRIME);
                }
            }
            // A prime's power two below it turns a number into its reciprocal.
            return Numbers.rest((long) above * Numbers.power(below, PRIME - 2, PRIME), PRIME);
        }

        private boolean lieOnOne(int set) {
            for (int i = 1; i <= dealt; i++) {
                if (holdsPart(set, i) && valueAt(set, i) != y[i]) {
                    return false;
                }
            }
            return true;
        }

        int wrongOne() {
            if (lieOnOne(all())) {
                return 0;
            }
            if (dealt < needed + 2) {
                return -2;
            }
            for (int i = 1; i <= dealt; i++) {
                // Not all lie on one: where the others do, this one does not.
                if (lieOnOne(all() & ~(1 << (i - 1)))) {
                    return i;
                }
            }
            return -2;
        }
    }

    /** The SEALED ones, a row each. */
    private static final class SealedRows {
        static final int MOST = 60;

        final int[] key = new int[MOST];
        final int[] c = new int[MOST];
        final int[] bound = new int[MOST];
        final int[] kind = new int[MOST];
        int count = 0;

        boolean isFull() {
            return count >= MOST;
        }

        boolean hasRoomFor(int more) {
            return count + more <= MOST;
        }

        int add(int itsKey, int itsC, int itsBound, int itsKind) {
            if (isFull()) {
                return NONE;
            }
            key[count] = itsKey;
            c[count] = itsC;
            bound[count] = itsBound;
            kind[count] = itsKind;
            count++;
            return count - 1;
        }
    }

    /**
     * WORKS in their order, and the outs. A sealed value's code is its slot at the desk: a WORK's number,
     * or that of an in behind all WORKS; an OPEN number k has the code -1 less k.
     */
    private static final class Program {
        static final int MOST_WORKS = 40;
        static final int SLOTS = MOST_WORKS + MOST_INS;
        static final int MOST_LAID = 12;
        static final int MOST_OUTS = 4;
        private static final int ANEW_PRICE = 25;
        /** By what a WORK does: FRESH (which is no WORK), SUM, LESS, PRODUCT, PLUS, TIMES. */
        private static final int[] PRICES = {0, 1, 1, 10, 1, 2};

        final int[] kind = new int[MOST_WORKS];
        final int[] first = new int[MOST_WORKS];
        /** The other value's code; of PLUS and TIMES the number k itself. */
        final int[] second = new int[MOST_WORKS];
        final int[] out = new int[MOST_OUTS];
        int ins = 0;
        int works = 0;
        int outs = 0;

        static int codeOfIn(int in) {
            return MOST_WORKS + in;
        }

        static int codeOfOpen(int number) {
            return -1 - number;
        }

        static boolean isOpen(int code) {
            return code < 0;
        }

        static int openNumber(int code) {
            return -1 - code;
        }

        /** As the document writes a value: a WORK's number, -10 less an in's, -30 less an OPEN number. */
        static int toldCode(int code) {
            if (isOpen(code)) {
                return -30 - openNumber(code);
            }
            return code < MOST_WORKS ? code : -10 - (code - MOST_WORKS);
        }

        int toldSecond(int w) {
            return hasPlainSecond(w) ? second[w] : toldCode(second[w]);
        }

        void startAfresh(int newIns) {
            ins = newIns;
            works = 0;
            outs = 0;
        }

        /** Counts on beyond what it keeps, so that the reader can tell that there are too many. */
        int addWork(int itsKind, int a, int b) {
            if (works < MOST_WORKS) {
                kind[works] = itsKind;
                first[works] = a;
                second[works] = b;
            }
            works++;
            return works - 1;
        }

        void addOut(int code) {
            if (outs < MOST_OUTS) {
                out[outs] = code;
                outs++;
            }
        }

        boolean canLay(int laying) {
            return laying >= 0 && laying < (1 << Math.min(works, MOST_LAID));
        }

        static boolean isLaid(int laying, int w) {
            return w < MOST_LAID && ((laying >> w) & 1) == 1;
        }

        int priceOf(int laying) {
            int price = ANEW_PRICE * Integer.bitCount(laying);
            for (int w = 0; w < works; w++) {
                price += PRICES[kind[w]];
            }
            return price;
        }

        private boolean hasPlainSecond(int w) {
            return kind[w] == PLUS || kind[w] == TIMES;
        }

        /** What WORK w gives by a modulus, from what stands in the slots. */
        int resultOf(int w, int[] slots, int by) {
            int b = hasPlainSecond(w) ? second[w] : slots[second[w]];
            return Numbers.worked(kind[w], slots[first[w]], b, by);
        }

        int boundOf(int w, int[] bounds) {
            int b = hasPlainSecond(w) ? second[w] : bounds[second[w]];
            return Numbers.workedBound(kind[w], bounds[first[w]], b);
        }
    }

    /** Where PROGRAMS are worked through: sealed, by their bounds alone, and openly. */
    private static final class Desk {
        private final int t;
        /** By slots: a C, or a plain number. */
        final int[] c = new int[Program.SLOTS];
        final int[] bound = new int[Program.SLOTS];
        private final int[] firstOuts = new int[Program.MOST_OUTS];

        Desk(int t) {
            this.t = t;
        }

        boolean staysAfloat(Program program, Key key, int laying) {
            int fresh = key.freshBound(t);
            if (program.ins > 0 && key.drowns(fresh)) {
                return false;
            }
            for (int i = 0; i < MOST_INS; i++) {
                bound[Program.codeOfIn(i)] = fresh;
            }
            for (int w = 0; w < program.works; w++) {
                int ahead = program.boundOf(w, bound);
                if (key.drowns(ahead)) {
                    return false;
                }
                bound[w] = Program.isLaid(laying, w) ? fresh : ahead;
            }
            return true;
        }

        /** The WORKS cost the same in all layings, so the least COST is the fewest made ANEW. */
        int bestLaying(Program program, Key key) {
            int best = -2;
            int fewest = Program.MOST_LAID + 1;
            int end = 1 << Math.min(program.works, Program.MOST_LAID);
            for (int laying = 0; laying < end; laying++) {
                int made = Integer.bitCount(laying);
                if (made < fewest && staysAfloat(program, key, laying)) {
                    best = laying;
                    fewest = made;
                }
            }
            return best;
        }

        void takeIn(int in, int itsC, int itsBound) {
            if (in >= 0 && in < MOST_INS) {
                c[Program.codeOfIn(in)] = itsC;
                bound[Program.codeOfIn(in)] = itsBound;
            }
        }

        /** False where one to be made ANEW is DROWNED. */
        boolean runs(Program program, Key key, int laying, int seed) {
            for (int w = 0; w < program.works; w++) {
                c[w] = program.resultOf(w, c, key.modulus());
                bound[w] = program.boundOf(w, bound);
                if (Program.isLaid(laying, w)) {
                    if (key.drowns(bound[w])) {
                        return false;
                    }
                    c[w] = key.freshC(t, key.openedOf(c[w], t), seed + 10 * w);
                    bound[w] = key.freshBound(t);
                }
            }
            return true;
        }

        int plainInputs(int ins) {
            int inputs = 1;
            for (int i = 0; i < ins; i++) {
                inputs *= t;
            }
            return inputs;
        }

        void setPlainIns(int v) {
            int left = v;
            for (int i = 0; i < MOST_INS; i++) {
                c[Program.codeOfIn(i)] = Numbers.rest(left, t);
                left = Numbers.quotient(left, t);
            }
        }

        void workOpenly(Program program) {
            for (int w = 0; w < program.works; w++) {
                c[w] = program.resultOf(w, c, t);
            }
        }

        int plainOut(Program program, int out) {
            int code = program.out[out];
            return Program.isOpen(code) ? Program.openNumber(code) : c[code];
        }

        int differing(Program one, Program other) {
            int inputs = plainInputs(one.ins);
            int differing = 0;
            for (int v = 0; v < inputs; v++) {
                setPlainIns(v);
                workOpenly(one);
                for (int i = 0; i < one.outs; i++) {
                    firstOuts[i] = plainOut(one, i);
                }
                workOpenly(other);
                differing += hasFirstOuts(other) ? 0 : 1;
            }
            return differing;
        }

        private boolean hasFirstOuts(Program program) {
            for (int i = 0; i < program.outs; i++) {
                if (plainOut(program, i) != firstOuts[i]) {
                    return false;
                }
            }
            return true;
        }
    }

    /** The TOKENS of a TEXT, up to the first that is none; behind them stands an END or that one. */
    private static final class Tokens {
        static final int MOST = 300;
        // A sign's kind is the sign itself, so these stay below all signs.
        static final int END = 0;
        static final int BAD = 1;
        static final int NAME = 2;
        static final int INT = 3;
        static final int IN = 4;
        static final int TABLE = 5;
        static final int LET = 6;
        static final int OUT_WORD = 7;
        static final int CHOOSE = 8;
        static final int ASK = 9;
        private static final String SIGNS = ";:,=+-*()";

        final int[] kind = new int[MOST + 2];
        final int[] place = new int[MOST + 2];
        /** A NAME's letters, five bits each; an INT's number. */
        final long[] value = new long[MOST + 2];
        int count = 0;

        /** The 301st is still looked at: whether it is a fault of form is asked ahead of its room. */
        void split(Tape tape) {
            count = 0;
            int at = afterBlanks(tape, 0);
            for (int n = 0; n <= MOST && at < tape.length; n++) {
                int end = endOfToken(tape, at);
                setKind(tape, at, end);
                if (kind[n] == BAD) {
                    return;
                }
                count++;
                at = afterBlanks(tape, end);
            }
            kind[count] = END;
            place[count] = tape.length;
            value[count] = 0;
        }

        private static int afterBlanks(Tape tape, int from) {
            int at = from;
            while (at < tape.length && isBlank(tape.at(at))) {
                at++;
            }
            return at;
        }

        private static boolean isBlank(int sign) {
            return sign == 9 || sign == 10 || sign == 13 || sign == 32;
        }

        private static boolean isLetter(int sign) {
            return sign >= 'a' && sign <= 'z';
        }

        private static boolean isDigit(int sign) {
            return sign >= '0' && sign <= '9';
        }

        private static int endOfToken(Tape tape, int from) {
            int at = from;
            while (at < tape.length && isLetter(tape.at(at))) {
                at++;
            }
            if (at > from) {
                return at;
            }
            while (at < tape.length && isDigit(tape.at(at))) {
                at++;
            }
            return at > from ? at : from + 1;
        }

        private void setKind(Tape tape, int from, int end) {
            int sign = tape.at(from);
            place[count] = from;
            value[count] = 0;
            if (isLetter(sign)) {
                kind[count] = end - from > 8 ? BAD : wordOrName(tape, from, end);
                value[count] = numberOf(tape, from, end, 32, 'a' - 1);
            } else if (isDigit(sign)) {
                kind[count] = end - from > 4 ? BAD : INT;
                value[count] = numberOf(tape, from, end, 10, '0');
            } else {
                kind[count] = SIGNS.indexOf((char) sign) >= 0 ? sign : BAD;
            }
        }

        private static long numberOf(Tape tape, int from, int end, int base, int zero) {
            long number = 0;
            for (int at = from; at < end; at++) {
                number = number * base + (tape.at(at) - zero);
            }
            return number;
        }

        private static int wordOrName(Tape tape, int from, int end) {
            if (spells(tape, from, end, "in")) {
                return IN;
            }
            if (spells(tape, from, end, "table")) {
                return TABLE;
            }
            if (spells(tape, from, end, "let")) {
                return LET;
            }
            if (spells(tape, from, end, "out")) {
                return OUT_WORD;
            }
            if (spells(tape, from, end, "choose")) {
                return CHOOSE;
            }
            return spells(tape, from, end, "ask") ? ASK : NAME;
        }

        private static boolean spells(Tape tape, int from, int end, String word) {
            if (end - from != word.length()) {
                return false;
            }
            for (int i = 0; i < word.length(); i++) {
                if (tape.at(from + i) != word.charAt(i)) {
                    return false;
                }
            }
            return true;
        }
    }

    /**
     * Goes through the TOKENS by the grammar, which needs one TOKEN ahead alone: so the first that is
     * refused is the first with which no text goes on. Writes down what is to be worked out, within ahead of around.
     */
    private static final class Grammar {
        private static final int MOST_TABLES = 4;
        private static final int MOST_DEPTH = 6;

        final Tokens tokens = new Tokens();
        /** A kind of TOKEN: NAME and INT put a value, all else works on what was put. */
        final int[] order = new int[Tokens.MOST];
        /** The TOKEN that an order is about: the NAME, the INT, the TELL's word. */
        final int[] about = new int[Tokens.MOST];
        int length = 0;
        int faultPlace = NONE;
        private int at = 0;
        private int ins = 0;
        private int tables = 0;
        private int outs = 0;
        private int fault = NO_FAULT;

        int check(Tape tape) {
            tokens.split(tape);
            length = 0;
            at = 0;
            ins = 0;
            tables = 0;
            outs = 0;
            fault = NO_FAULT;
            faultPlace = NONE;
            boolean fine = true;
            for (int n = 0; n <= Tokens.MOST && fine && now() != Tokens.END; n++) {
                fine = tell();
            }
            return fault;
        }

        private int now() {
            return tokens.kind[at];
        }

        private boolean refuse(int number) {
            fault = number;
            faultPlace = tokens.place[at];
            return false;
        }

        private boolean pass() {
            if (at >= Tokens.MOST) {
                fault = FAULT_ROOM;
                faultPlace = tokens.place[at];
                return false;
            }
            at++;
            return true;
        }

        private boolean take(int kind) {
            return now() == kind ? pass() : refuse(FAULT_SYNTAX);
        }

        private boolean writeDown(int kind, int token) {
            if (length < order.length) {
                order[length] = kind;
                about[length] = token;
                length++;
            }
            return true;
        }

        private boolean tell() {
            int word = at;
            switch (now()) {
                case Tokens.IN:
                    ins++;
                    return wordWithin(ins, MOST_INS) && take(Tokens.NAME) && take(';');
                case Tokens.TABLE:
                    tables++;
                    return wordWithin(tables, MOST_TABLES) && take(Tokens.NAME) && take(':')
                        && numbers() && take(';');
                case Tokens.LET:
                    return pass() && take(Tokens.NAME) && take('=') && sum(0) && take(';')
                        && writeDown(Tokens.LET, word);
                case Tokens.OUT_WORD:
                    outs++;
                    return wordWithin(outs, Program.MOST_OUTS) && sum(0) && take(';')
                        && writeDown(Tokens.OUT_WORD, word);
                default:
                    return refuse(FAULT_SYNTAX);
            }
        }

        private boolean wordWithin(int told, int most) {
            return told > most ? refuse(FAULT_ROOM) : pass();
        }

        private boolean numbers() {
            boolean fine = take(Tokens.INT);
            for (int n = 0; n < Tokens.MOST && fine && now() == ','; n++) {
                fine = pass() && take(Tokens.INT);
            }
            return fine;
        }

        private boolean sum(int depth) {
            boolean fine = product(depth);
            for (int n = 0; n < Tokens.MOST && fine && (now() == '+' || now() == '-'); n++) {
                int sign = now();
                fine = pass() && product(depth) && writeDown(sign, at);
            }
            return fine;
        }

        private boolean product(int depth) {
            boolean fine = unit(depth);
            for (int n = 0; n < Tokens.MOST && fine && now() == '*'; n++) {
                fine = pass() && unit(depth) && writeDown('*', at);
            }
            return fine;
        }

        private boolean unit(int depth) {
            int first = at;
            switch (now()) {
                case Tokens.INT:
                case Tokens.NAME:
                    return writeDown(now(), first) && pass();
                case '(':
                    return goWithin(depth) && sum(depth + 1) && take(')');
                case Tokens.CHOOSE:
                    return goWithin(depth) && unit(depth + 1) && unit(depth + 1) && unit(depth + 1)
                        && writeDown(Tokens.CHOOSE, first);
                case Tokens.ASK:
                    return goWithin(depth) && take(Tokens.NAME) && unit(depth + 1)
                        && writeDown(Tokens.ASK, first + 1);
                default:
                    return refuse(FAULT_SYNTAX);
            }
        }

        private boolean goWithin(int depth) {
            return depth >= MOST_DEPTH ? refuse(FAULT_ROOM) : pass();
        }
    }

    /** The NAMES that a TEXT tells, and what each stands for. */
    private static final class Names {
        private final int t;
        private final long[] told = new long[Tokens.MOST];
        private final int[] sort = new int[Tokens.MOST];
        /** An in's code; a table's NAME's TOKEN; a let's code, once it is worked out. */
        private final int[] stands = new int[Tokens.MOST];
        private int count = 0;
        int ins = 0;
        int faultPlace = NONE;

        Names(int t) {
            this.t = t;
        }

        int check(Tokens tokens) {
            count = 0;
            ins = 0;
            faultPlace = NONE;
            int let = NONE;
            for (int i = 1; i < tokens.count && i < Tokens.MOST; i++) {
                if (tokens.kind[i] == Tokens.NAME) {
                    int fault = faultOf(tokens, i);
                    if (fault != NO_FAULT) {
                        faultPlace = tokens.place[i];
                        return fault;
                    }
                    let = tokens.kind[i - 1] == Tokens.LET ? i : let;
                } else if (tokens.kind[i] == ';' && let > 0) {
                    // A let's own NAME is told with its end: its E stands ahead of what it tells.
                    add(tokens.value[let], Tokens.LET, let);
                    let = NONE;
                }
            }
            return NO_FAULT;
        }

        private int faultOf(Tokens tokens, int i) {
            long name = tokens.value[i];
            int found = find(name);
            switch (tokens.kind[i - 1]) {
                case Tokens.IN:
                    add(name, Tokens.IN, Program.codeOfIn(ins));
                    ins++;
                    return found >= 0 ? FAULT_TWICE : NO_FAULT;
                case Tokens.LET:
                    return found >= 0 ? FAULT_TWICE : NO_FAULT;
                case Tokens.TABLE:
                    add(name, Tokens.TABLE, i);
                    if (found >= 0) {
                        return FAULT_TWICE;
                    }
                    return isPrime() && numbersBehind(tokens, i) == t ? NO_FAULT : FAULT_WRONG;
                case Tokens.ASK:
                    return found >= 0 && sort[found] == Tokens.TABLE ? NO_FAULT : FAULT_NAME;
                default:
                    return found >= 0 && sort[found] != Tokens.TABLE ? NO_FAULT : FAULT_NAME;
            }
        }

        private boolean isPrime() {
            return t == 2 || t == 3 || t == 5 || t == 7 || t == 11 || t == 13;
        }

        private static int numbersBehind(Tokens tokens, int name) {
            int numbers = 0;
            for (int i = name + 1; i < tokens.count && tokens.kind[i] != ';'; i++) {
                numbers += tokens.kind[i] == Tokens.INT ? 1 : 0;
            }
            return numbers;
        }

        private void add(long name, int itsSort, int itStands) {
            if (count < told.length) {
                told[count] = name;
                sort[count] = itsSort;
                stands[count] = itStands;
                count++;
            }
        }

        private int find(long name) {
            for (int i = 0; i < count; i++) {
                if (told[i] == name) {
                    return i;
                }
            }
            return NONE;
        }

        int standsFor(long name) {
            int found = find(name);
            return found >= 0 ? stands[found] : 0;
        }

        void letStandFor(long name, int code) {
            int found = find(name);
            if (found >= 0) {
                stands[found] = code;
            }
        }
    }

    /** Makes the WORKS of a PROGRAM from what the grammar wrote down. */
    private static final class Maker {
        private final int t;
        private final int[] stack = new int[Tokens.MOST];
        private int height = 0;
        int faultPlace = NONE;

        Maker(int t) {
            this.t = t;
        }

        int make(Grammar grammar, Names names, Program program) {
            program.startAfresh(names.ins);
            height = 0;
            faultPlace = NONE;
            for (int i = 0; i < grammar.length; i++) {
                int order = grammar.order[i];
                int token = grammar.about[i];
                if (order == Tokens.LET || order == Tokens.OUT_WORD) {
                    endTell(order, grammar.tokens.value[token + 1], names, program);
                    if (program.works > Program.MOST_WORKS) {
                        faultPlace = grammar.tokens.place[token];
                        return FAULT_WORKS;
                    }
                } else {
                    follow(order, token, grammar.tokens, names, program);
                }
            }
            return NO_FAULT;
        }

        private void push(int code) {
            if (height < stack.length) {
                stack[height] = code;
                height++;
            }
        }

        private int pop() {
            if (height < 1) {
                return Program.codeOfOpen(0);
            }
            height--;
            return stack[height];
        }

        private void endTell(int order, long name, Names names, Program program) {
            int code = pop();
            if (order == Tokens.LET) {
                names.letStandFor(name, code);
            } else {
                program.addOut(code);
            }
        }

        private void follow(int order, int token, Tokens tokens, Names names, Program program) {
            if (order == Tokens.INT) {
                push(openOf(tokens.value[token]));
            } else if (order == Tokens.NAME) {
                push(names.standsFor(tokens.value[token]));
            } else if (order == Tokens.ASK) {
                push(asked(tokens, names.standsFor(tokens.value[token]), pop(), program));
            } else if (order == Tokens.CHOOSE) {
                int b = pop();
                int a = pop();
                push(chosen(pop(), a, b, program));
            } else {
                int b = pop();
                push(joinedBy(order, pop(), b, program));
            }
        }

        private int openOf(long number) {
            return Program.codeOfOpen(Numbers.rest(number, t));
        }

        private int joinedBy(int sign, int a, int b, Program program) {
            switch (sign) {
                case '+':
                    return added(a, b, program);
                case '-':
                    return taken(a, b, program);
                default:
                    return multiplied(a, b, program);
            }
        }

        private int added(int a, int b, Program program) {
            if (Program.isOpen(a)) {
                return openAdded(b, Program.openNumber(a), program);
            }
            if (Program.isOpen(b)) {
                return openAdded(a, Program.openNumber(b), program);
            }
            return program.addWork(SUM, a, b);
        }

        private int openAdded(int a, int k, Program program) {
            if (Program.isOpen(a)) {
                return openOf(Program.openNumber(a) + k);
            }
            return k == 0 ? a : program.addWork(PLUS, a, k);
        }

        private int taken(int a, int b, Program program) {
            if (Program.isOpen(b)) {
                return openAdded(a, Numbers.rest(-Program.openNumber(b), t), program);
            }
            if (Program.isOpen(a)) {
                return openAdded(program.addWork(TIMES, b, -1), Program.openNumber(a), program);
            }
            return program.addWork(LESS, a, b);
        }

        private int multiplied(int a, int b, Program program) {
            if (Program.isOpen(a)) {
                return openMultiplied(b, Program.openNumber(a), program);
            }
            if (Program.isOpen(b)) {
                return openMultiplied(a, Program.openNumber(b), program);
            }
            return program.addWork(PRODUCT, a, b);
        }

        private int openMultiplied(int a, int k, Program program) {
            if (Program.isOpen(a)) {
                return openOf(Program.openNumber(a) * k);
            }
            if (k < 2) {
                return k == 0 ? openOf(0) : a;
            }
            return program.addWork(TIMES, a, t - k < k ? k - t : k);
        }

        private int chosen(int c, int a, int b, Program program) {
            return added(multiplied(c, taken(a, b, program), program), b, program);
        }

        private int asked(Tokens tokens, int table, int x, Program program) {
            int h = openOf(coefficient(tokens, table, t - 1));
            for (int j = t - 2; j >= 0; j--) {
                int c = openOf(coefficient(tokens, table, j));
                h = added(multiplied(h, x, program), c, program);
            }
            return h;
        }

        /**
         * Over a prime T the polynomial is the sum over a of f(a) * (1 - (x - a) to the T - 1), and the
         * coefficient of x to the j in (x - a) to the T - 1 is a to the T - 1 - j.
         */
        private int coefficient(Tokens tokens, int table, int j) {
            if (j == 0) {
                return Numbers.rest(tableNumber(tokens, table, 0), t);
            }
            int sum = 0;
            for (int a = 0; a < t; a++) {
                int power = Numbers.power(a, t - 1 - j, t);
                sum = Numbers.rest(sum - tableNumber(tokens, table, a) * power, t);
            }
            return sum;
        }

        /** The INTS stand behind the table's NAME and its colon, with a comma between. */
        private static long tableNumber(Tokens tokens, int table, int a) {
            int token = table + 2 + 2 * a;
            return token >= 0 && token < tokens.count ? tokens.value[token] : 0;
        }
    }
}
