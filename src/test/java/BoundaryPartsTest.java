/** Each boundary that the document names of CHECKS, PARTS and EVEN: promises 28 to 34. */
public final class BoundaryPartsTest {
    private static final int LEAST = Integer.MIN_VALUE;
    private static final int MOST = Integer.MAX_VALUE;
    private static final int PRIME = 100003;
    private static final int[] NO_KEY = {-1, 3, LEAST, MOST};
    private static final Sentences DOC = new Sentences("Terms", "Promise 28", "Promise 29", "Promise 30", "Promise 31",
        "Promise 32", "Promise 33", "Promise 34");

    public static void main(String[] args) {
        checksOfN();
        checksOfWAndR();
        checksWithoutAWrongOne();
        refusedChecks();
        partsOfNAndK();
        partsY();
        partsInPlaceOfOthers();
        refusedParts();
        part();
        refusedPart();
        spoils();
        refusedSpoils();
        joinedOfFewOrMany();
        joinedOfTheFirst();
        joinedWraps();
        refusedJoined();
        whoOfHowMany();
        whoOfTwoWrongOnes();
        whoOfValuesThatFit();
        refusedWho();
        evenByW();
        evenOfM();
        evenOfKeys();
        refusedEven();
        deadKeysHaveParts();
        DOC.end();
    }

    private static void checksOfN() {
        DOC.says("Terms", "CHECKS: of n works (1 .. 20)");
        SealedSums x = new SealedSums(5);
        DOC.is("n 1, none repeated", x.checks(1, 0, 0, 0), 1);
        DOC.is("n 1, all repeated", x.checks(1, 0, 1, 0), 1);
        DOC.is("n 1, the one wrong", x.checks(1, 1, 1, 1), 0);
        DOC.is("n 20", x.checks(20, 0, 10, 0), 184756);
        DOC.is("n 20, none repeated", x.checks(20, 20, 0, 1), 1);
        DOC.is("n 20, all repeated", x.checks(20, 0, 20, 1), 1);
        DOC.is("n 20, r 19", x.checks(20, 0, 19, 0), 20);
        DOC.is("n 20, r 1", x.checks(20, 0, 1, 0), 20);
    }

    private static long choices(int n, int r) {
        return r < 0 || r > n ? 0 : r == 0 || r == n ? 1 : choices(n - 1, r - 1) + choices(n - 1, r);
    }

    private static void checksOfWAndR() {
        DOC.says("Terms", "of n works (1 .. 20) w are wrong, r are repeated");
        SealedSums x = new SealedSums(5);
        for (int n = 1; n <= 20; n++) {
            DOC.is("w 0", x.checks(n, 0, 1, 1), n);
            DOC.is("w n", x.checks(n, n, 0, 1), 1);
            DOC.is("w n + 1", x.checks(n, n + 1, 0, 1), -1);
            DOC.is("w -1", x.checks(n, -1, 0, 1), -1);
            DOC.is("r 0", x.checks(n, 0, 0, 0), 1);
            DOC.is("r n", x.checks(n, 0, n, 0), 1);
            DOC.is("r n + 1", x.checks(n, 0, n + 1, 0), -1);
            DOC.is("r -1", x.checks(n, 0, -1, 0), -1);
        }
    }

    private static void checksWithoutAWrongOne() {
        DOC.says("Terms", "how often, of all choices of r, none of them is wrong");
        SealedSums x = new SealedSums(5);
        int[] ns = {1, 2, 7, 19, 20};
        for (int n : ns) {
            for (int w = 0; w <= n; w++) {
                DOC.is("just as many as are right", x.checks(n, w, n - w, 1), 1);
                if (w > 0) {
                    DOC.is("one more than are right", x.checks(n, w, n - w + 1, 1), 0);
                }
                DOC.is("all of them", x.checks(n, w, n, 1), w == 0 ? 1 : 0);
            }
        }
        DOC.says("Promise 28", "all choices (what 0), those without a wrong one (1)");
        for (int r = 0; r <= 20; r++) {
            DOC.is("all", x.checks(20, 7, r, 0), choices(20, r));
            DOC.is("without a wrong one", x.checks(20, 7, r, 1), choices(13, r));
        }
    }

    private static void refusedChecks() {
        DOC.says("Promise 28", "NONE: no such ones.");
        int[] noN = {0, -1, 21, LEAST, MOST};
        for (int n : noN) {
            DOC.refused("n " + n, Houses::small, x -> x.checks(n, 0, 0, 0), -1);
        }
        int[] none = {-1, 6, LEAST, MOST};
        for (int one : none) {
            DOC.refused("w " + one, Houses::small, x -> x.checks(5, one, 0, 0), -1);
            DOC.refused("w " + one, Houses::small, x -> x.checks(5, one, 0, 1), -1);
            DOC.refused("r " + one, Houses::small, x -> x.checks(5, 0, one, 0), -1);
            DOC.refused("r " + one, Houses::small, x -> x.checks(5, 0, one, 1), -1);
        }
        int[] noWhat = {-1, 2, LEAST, MOST};
        for (int what : noWhat) {
            DOC.refused("what " + what, Houses::small, x -> x.checks(5, 0, 0, what), -1);
        }
    }

    private static SealedSums withParts(int n, int k) {
        SealedSums x = new SealedSums(5);
        x.key(99997, 10, 0);
        x.parts(0, n, k, 77);
        return x;
    }

    private static void partsOfNAndK() {
        DOC.says("Terms", "PARTS of a KEY (n of 2 .. 6, k of 1 .. n needed)");
        for (int n = 0; n <= 8; n++) {
            for (int k = -1; k <= 9; k++) {
                SealedSums x = new SealedSums(5);
                x.key(101, 10, 0);
                boolean can = n >= 2 && n <= 6 && k >= 1 && k <= n;
                DOC.is("n " + n + ", k " + k, x.parts(0, n, k, 5), can);
                DOC.is("the last part is there", x.part(0, n) >= 0, can);
                DOC.is("none behind it", x.part(0, n + 1), -1);
                DOC.is("k parts give P", x.joined(0, can ? (1 << k) - 1 : 1), can ? 101 : -1);
            }
        }
    }

    private static void partsY() {
        DOC.says("Terms", "y of part i (1 .. n) is P + (the sum of c of j * i to the j over j = 1 .. k - 1)");
        int[] ps = {101, 99997};
        int[] seeds = {0, 7, -1, LEAST, MOST};
        for (int p : ps) {
            for (int seed : seeds) {
                for (int k = 1; k <= 6; k++) {
                    SealedSums x = new SealedSums(5);
                    x.key(p, 10, 0);
                    x.parts(0, 6, k, seed);
                    for (int i = 1; i <= 6; i++) {
                        long y = p;
                        long power = 1;
                        for (int j = 1; j < k; j++) {
                            power *= i;
                            y += Model.draw(seed, j, PRIME) * power;
                        }
                        DOC.is("P " + p + ", seed " + seed + ", k " + k + ": y of " + i, x.part(0, i), y % PRIME);
                    }
                }
            }
        }
        DOC.says("Terms", "c of j being LOT 100003, which j, of a SEED");
        SealedSums two = new SealedSums(5);
        two.key(101, 10, 0);
        two.parts(0, 3, 3, 42);
        int first = Model.draw(42, 1, PRIME);
        int second = Model.draw(42, 2, PRIME);
        DOC.is("c of 1 and 2", two.part(0, 1), (101 + first + second) % PRIME);
        DOC.is("c of 1 and 2", two.part(0, 3), (101 + 3 * first + 9 * second) % PRIME);
        DOC.says("Terms", "modulo 100003");
        boolean wraps = false;
        for (int seed = 0; seed < 50; seed++) {
            SealedSums x = new SealedSums(5);
            x.key(99997, 10, 0);
            x.parts(0, 2, 2, seed);
            DOC.is("below 100003", x.part(0, 1), (99997 + Model.draw(seed, 1, PRIME)) % PRIME);
            wraps |= 99997 + Model.draw(seed, 1, PRIME) >= PRIME;
        }
        DOC.is("some went beyond it", wraps, true);
    }

    private static void partsInPlaceOfOthers() {
        DOC.says("Promise 29", "A KEY gets PARTS (in place of those that it had): true; false: no such ones.");
        SealedSums x = withParts(6, 6);
        DOC.is("others", x.parts(0, 2, 1, 5), true);
        DOC.is("their first", x.part(0, 1), 99997);
        DOC.is("their last", x.part(0, 2), 99997);
        DOC.is("no third", x.part(0, 3), -1);
        DOC.is("one is needed", x.joined(0, 2), 99997);
        DOC.is("no third to join", x.joined(0, 4), -1);
        x.spoil(0, 1, 5);
        x.parts(0, 2, 1, 5);
        DOC.is("a spoilt one is replaced", x.part(0, 1), 99997);
        x.parts(0, 6, 6, 77);
        DOC.is("back to those at first", x.part(0, 6), withParts(6, 6).part(0, 6));
        SealedSums y = Houses.small();
        int was = y.part(0, 1);
        y.parts(1, 3, 2, 1);
        DOC.is("another key's stay", y.part(0, 1), was);
        SealedSums four = Houses.full();
        DOC.is("the last key", four.parts(3, 2, 2, 1), true);
        DOC.is("a fifth key", four.parts(4, 2, 2, 1), false);
    }

    private static void refusedParts() {
        DOC.says("Promise 29", "false: no such ones.");
        for (int key : NO_KEY) {
            DOC.denied("key " + key, Houses::small, x -> x.parts(key, 3, 2, 1));
        }
        int[] noN = {1, 7, 0, -1, LEAST, MOST};
        for (int n : noN) {
            DOC.denied("n " + n, Houses::small, x -> x.parts(0, n, 1, 1));
            DOC.denied("n " + n + " of a key without parts", Houses::small, x -> x.parts(1, n, 1, 1));
        }
        int[] noK = {0, 5, -1, LEAST, MOST};
        for (int k : noK) {
            DOC.denied("k " + k + " of 4", Houses::small, x -> x.parts(0, 4, k, 1));
        }
        DOC.denied("k 7 of 6", Houses::small, x -> x.parts(0, 6, 7, 1));
        DOC.denied("k 3 of 2", Houses::small, x -> x.parts(0, 2, 3, 1));
    }

    private static void part() {
        DOC.says("Promise 30", "y of a part; NONE: no such ones.");
        for (int n = 2; n <= 6; n++) {
            SealedSums x = withParts(n, 1);
            for (int i = 1; i <= n; i++) {
                DOC.is("part " + i + " of " + n, x.part(0, i), 99997);
            }
            DOC.is("part 0", x.part(0, 0), -1);
            DOC.is("one behind the last", x.part(0, n + 1), -1);
        }
    }

    private static void refusedPart() {
        DOC.says("Promise 30", "NONE: no such ones.");
        int[] noPart = {0, 6, -1, 7, LEAST, MOST};
        for (int i : noPart) {
            DOC.refused("part " + i + " of 5", Houses::small, x -> x.part(0, i), -1);
        }
        for (int key : NO_KEY) {
            DOC.refused("key " + key, Houses::small, x -> x.part(key, 1), -1);
        }
        DOC.refused("a key without parts", Houses::small, x -> x.part(1, 1), -1);
        DOC.is("no key", new SealedSums(5).part(0, 1), -1);
    }

    private static void spoils() {
        DOC.says("Promise 31", "y of a part becomes v (0 .. 100002): true; false: no such ones.");
        SealedSums x = withParts(6, 3);
        int[] values = {0, 1, 100001, 100002};
        for (int v : values) {
            DOC.is("the first, " + v, x.spoil(0, 1, v), true);
            DOC.is("it is", x.part(0, 1), v);
            DOC.is("the last, " + v, x.spoil(0, 6, v), true);
            DOC.is("it is", x.part(0, 6), v);
        }
        DOC.is("the others stay", x.part(0, 3), withParts(6, 3).part(0, 3));
    }

    private static void refusedSpoils() {
        DOC.says("Promise 31", "false: no such ones.");
        int[] noV = {-1, 100003, 100004, LEAST, MOST};
        for (int v : noV) {
            DOC.denied("v " + v, Houses::small, x -> x.spoil(0, 1, v));
        }
        int[] noPart = {0, 6, -1, 7, LEAST, MOST};
        for (int i : noPart) {
            DOC.denied("part " + i + " of 5", Houses::small, x -> x.spoil(0, i, 5));
        }
        for (int key : NO_KEY) {
            DOC.denied("key " + key, Houses::small, x -> x.spoil(key, 1, 5));
        }
        DOC.denied("a key without parts", Houses::small, x -> x.spoil(1, 1, 5));
    }

    private static void joinedOfFewOrMany() {
        DOC.says("Promise 32", "JOINED of parts (bits, bit i - 1 part i); -2: fewer than needed");
        for (int n = 2; n <= 6; n++) {
            for (int k = 1; k <= n; k++) {
                SealedSums x = withParts(n, k);
                for (int set = 0; set < 1 << n; set++) {
                    DOC.is("n " + n + ", k " + k + ", set " + set, x.joined(0, set),
                        Integer.bitCount(set) < k ? -2 : 99997);
                }
                DOC.is("no part at all", x.joined(0, 0), -2);
                DOC.is("one fewer than needed", x.joined(0, (1 << (k - 1)) - 1), -2);
                DOC.is("just as many", x.joined(0, (1 << k) - 1), 99997);
                DOC.is("the last ones", x.joined(0, ((1 << k) - 1) << (n - k)), 99997);
            }
        }
    }

    private static void joinedOfTheFirst() {
        DOC.says("Terms", "JOINED: of told parts the first k (by numbers) give P");
        SealedSums x = withParts(6, 2);
        x.spoil(0, 3, 1);
        x.spoil(0, 6, 1);
        DOC.is("a spoilt third of three", x.joined(0, 0b000111), 99997);
        DOC.is("a spoilt last of all", x.joined(0, 0b111011), 99997);
        DOC.is("a spoilt second of two", x.joined(0, 0b000101) == 99997, false);
        DOC.is("a spoilt first", x.joined(0, 0b111100) == 99997, false);
        SealedSums one = withParts(6, 1);
        for (int i = 1; i <= 6; i++) {
            one.spoil(0, i, 10 * i);
        }
        for (int set = 1; set < 64; set++) {
            DOC.is("the first of " + set, one.joined(0, set), 10 * (Integer.numberOfTrailingZeros(set) + 1));
        }
    }

    private static void joinedWraps() {
        DOC.says("Terms", "by the one polynomial of degree below k through them");
        SealedSums x = withParts(6, 2);
        // Through (1, a) and (2, b) it is 2 * a - b at 0.
        int[][] cases = {{0, 0, 0}, {0, 1, 100002}, {1, 0, 2}, {100002, 0, 100001}, {0, 100002, 1}, {100002, 100002, 100002}};
        for (int[] one : cases) {
            x.spoil(0, 1, one[0]);
            x.spoil(0, 2, one[1]);
            DOC.is("through " + one[0] + " and " + one[1], x.joined(0, 3), one[2]);
        }
        // Through (1, a) and (6, b) it is (6 * a - b) / 5.
        x.spoil(0, 1, 1);
        x.spoil(0, 6, 5);
        DOC.is("a fifth, modulo 100003", 5L * x.joined(0, 33) % PRIME, 1);
        SealedSums all = withParts(6, 6);
        for (int i = 1; i <= 6; i++) {
            all.spoil(0, i, 100002);
        }
        DOC.is("the same everywhere", all.joined(0, 63), 100002);
        for (int i = 1; i <= 6; i++) {
            all.spoil(0, i, i * i * i * i * i);
        }
        DOC.is("i to the 5", all.joined(0, 63), 0);
    }

    private static void refusedJoined() {
        DOC.says("Promise 32", "NONE: no such ones.");
        int[] noSet = {32, 33, 63, 64, -1, -32, LEAST, LEAST + 7, MOST};
        for (int set : noSet) {
            DOC.refused("set " + set + " of five parts", Houses::small, x -> x.joined(0, set), -1);
        }
        DOC.refused("fewer than needed", Houses::small, x -> x.joined(0, 3), -2);
        for (int key : NO_KEY) {
            DOC.refused("key " + key, Houses::small, x -> x.joined(key, 1), -1);
        }
        DOC.refused("a key without parts", Houses::small, x -> x.joined(1, 0), -1);
        DOC.is("all six", withParts(6, 3).joined(0, 63), 99997);
        DOC.is("a seventh", withParts(6, 3).joined(0, 64), -1);
    }

    private static void whoOfHowMany() {
        DOC.says("Terms", "told only if there are k + 2 parts or more");
        DOC.says("Promise 33", "The WRONG part; 0: all lie on one polynomial of degree below k; -2: none can be told");
        for (int n = 2; n <= 6; n++) {
            for (int k = 1; k <= n; k++) {
                DOC.is("none is wrong", withParts(n, k).who(0), 0);
                for (int i = 1; i <= n; i++) {
                    SealedSums x = withParts(n, k);
                    x.spoil(0, i, (x.part(0, i) + 1) % PRIME);
                    // Through k points there always is one; of k + 1 each could be the wrong one.
                    int due = n == k ? 0 : n == k + 1 ? -2 : i;
                    DOC.is("n " + n + ", k " + k + ", part " + i + " is wrong", x.who(0), due);
                }
            }
        }
    }

    private static void whoOfTwoWrongOnes() {
        DOC.says("Terms", "A part is WRONG if all others lie on one polynomial of degree below k, and it does not");
        for (int k = 1; k <= 3; k++) {
            for (int one = 1; one <= 6; one++) {
                for (int other = one + 1; other <= 6; other++) {
                    SealedSums x = withParts(6, k);
                    x.spoil(0, one, (x.part(0, one) + 1) % PRIME);
                    x.spoil(0, other, (x.part(0, other) + 2) % PRIME);
                    DOC.is("k " + k + ": " + one + " and " + other, x.who(0), -2);
                }
            }
        }
        // (x - 1) * (x - 2) * (x - 6) has 1 to 2 at 3 and 4: with these more there, all but part 5 lie on one again.
        SealedSums four = withParts(6, 4);
        four.spoil(0, 3, (four.part(0, 3) + 1) % PRIME);
        four.spoil(0, 4, (four.part(0, 4) + 2) % PRIME);
        DOC.is("k 4: 3 and 4 agree with all but 5", four.who(0), 5);
        four.spoil(0, 4, (four.part(0, 4) + 1) % PRIME);
        DOC.is("k 4: 3 and 4 agree with none", four.who(0), -2);
        SealedSums x = withParts(3, 1);
        x.spoil(0, 1, 5);
        x.spoil(0, 3, 5);
        DOC.is("two that agree make the third wrong", x.who(0), 2);
        x.spoil(0, 2, 6);
        DOC.is("it still is", x.who(0), 2);
        x.spoil(0, 3, 7);
        DOC.is("all three differ", x.who(0), -2);
    }

    private static void whoOfValuesThatFit() {
        DOC.says("Promise 33", "0: all lie on one polynomial of degree below k");
        SealedSums x = withParts(6, 2);
        for (int i = 1; i <= 6; i++) {
            x.spoil(0, i, 100000 + i <= 100002 ? 100000 + i : 100000 + i - PRIME);
        }
        DOC.is("another line, across 100003", x.who(0), 0);
        for (int i = 1; i <= 6; i++) {
            x.spoil(0, i, 0);
        }
        DOC.is("0 everywhere", x.who(0), 0);
        x.spoil(0, 6, 100002);
        DOC.is("but for the last", x.who(0), 6);
        x.spoil(0, 6, 0);
        x.spoil(0, 1, 1);
        DOC.is("but for the first", x.who(0), 1);
        SealedSums square = withParts(6, 3);
        SealedSums line = withParts(6, 2);
        for (int i = 1; i <= 6; i++) {
            square.spoil(0, i, i * i);
            line.spoil(0, i, i * i);
        }
        DOC.is("degree 2 is below 3", square.who(0), 0);
        DOC.is("degree 2 is not below 2", line.who(0), -2);
    }

    private static void refusedWho() {
        DOC.says("Promise 33", "NONE: no such KEY, no PARTS.");
        for (int key : NO_KEY) {
            DOC.refused("key " + key, Houses::small, x -> x.who(key), -1);
        }
        DOC.refused("no parts", Houses::small, x -> x.who(1), -1);
        DOC.is("no key", new SealedSums(5).who(0), -1);
    }

    private static int evenOf(int t, int p, int q, int b, int m, int w) {
        int[] counts = new int[w];
        for (long r = 0; r < q; r++) {
            for (int e = -b; e <= b; e++) {
                counts[(int) (Math.floorMod(p * r + t * e + m, (long) p * q) % w)]++;
            }
        }
        int most = 0;
        int least = MOST;
        for (int count : counts) {
            most = Math.max(most, count);
            least = Math.min(least, count);
        }
        return most - least;
    }

    private static void evenByW() {
        DOC.says("Terms", "how often each rest by w (2 .. 16) of C of FRESH of a number comes: the greatest less the least");
        SealedSums x = new SealedSums(5);
        x.key(101, 10, 0);
        x.key(103, 11, 1);
        for (int w = 2; w <= 16; w++) {
            DOC.is("by " + w, x.even(0, 3, w), evenOf(5, 101, 10, 0, 3, w));
            DOC.is("by " + w, x.even(1, 3, w), evenOf(5, 103, 11, 1, 3, w));
        }
        // 101 is 1 by 10, so each rest comes once; by 16 ten rests come once and six never.
        DOC.is("by 10 all come as often", x.even(0, 3, 10), 0);
        DOC.is("by 16 some never come", x.even(0, 3, 16), 1);
        int[] none = {1, 17, 0, -1, LEAST, MOST};
        for (int w : none) {
            DOC.refused("w " + w, Houses::small, y -> y.even(0, 3, w), -1);
        }
    }

    private static void evenOfM() {
        DOC.says("Promise 34", "EVEN of a number m by w; NONE: no such ones.");
        for (int t = 2; t <= 13; t++) {
            SealedSums x = new SealedSums(t);
            x.key(101, 10, 3);
            DOC.is("m 0", x.even(0, 0, 7), evenOf(t, 101, 10, 3, 0, 7));
            DOC.is("m T - 1", x.even(0, t - 1, 7), evenOf(t, 101, 10, 3, t - 1, 7));
            DOC.is("m T", x.even(0, t, 7), -1);
            DOC.is("m -1", x.even(0, -1, 7), -1);
        }
    }

    private static void evenOfKeys() {
        DOC.says("Terms", "EVEN: over all r of 0 .. Q - 1 and e of -B .. B");
        int[][] keys = {{101, 10, 0}, {101, 10, 10}, {101, 1000, 0}, {99997, 1000, 10}};
        int[] ts = {2, 13};
        for (int t : ts) {
            SealedSums x = new SealedSums(t);
            for (int i = 0; i < keys.length; i++) {
                x.key(keys[i][0], keys[i][1], keys[i][2]);
                for (int w = 2; w <= 16; w += 7) {
                    DOC.is("T " + t + ", key " + i + ", by " + w, x.even(i, t - 1, w),
                        evenOf(t, keys[i][0], keys[i][1], keys[i][2], t - 1, w));
                }
            }
        }
    }

    private static void refusedEven() {
        DOC.says("Promise 34", "NONE: no such ones.");
        for (int key : NO_KEY) {
            DOC.refused("key " + key, Houses::small, x -> x.even(key, 0, 2), -1);
        }
        int[] noM = {-1, 5, LEAST, MOST};
        for (int m : noM) {
            DOC.refused("m " + m, Houses::small, x -> x.even(0, m, 2), -1);
        }
        DOC.is("no key", new SealedSums(5).even(0, 0, 2), -1);
        DOC.refused("asking alone", Houses::small, x -> x.even(0, 3, 16), 1);
        DOC.refused("asking again is the same", Houses::small, x -> x.even(0, 3, 16) * 100 + x.even(0, 3, 10), 100);
    }

    /** Here the document refuses 'no such ones' alone, and a dead KEY is one. */
    private static void deadKeysHaveParts() {
        DOC.says("Promise 29", "A KEY gets PARTS");
        SealedSums x = Houses.small();
        DOC.is("the parts that it had", x.part(2, 2), 107);
        DOC.is("new ones", x.parts(2, 4, 2, 1), true);
        DOC.is("joined", x.joined(2, 15), 107);
        DOC.is("spoilt", x.spoil(2, 1, (x.part(2, 1) + 1) % PRIME), true);
        DOC.is("who", x.who(2), 1);
        DOC.is("even", x.even(2, 0, 2), evenOf(5, 107, 10, 1, 0, 2));
    }
}
