/** Each boundary that the document names of SEALED ones, FRESH, works and ANEW: promises 9 to 15. */
public final class BoundarySealedTest {
    private static final int LEAST = Integer.MIN_VALUE;
    private static final int MOST = Integer.MAX_VALUE;
    private static final int[] NO_NUMBER = {-1, 7, 60, LEAST, MOST};
    private static final Sentences DOC = new Sentences("Terms", "Promise 9", "Promise 10", "Promise 11", "Promise 12",
        "Promise 13", "Promise 14", "Promise 15");

    public static void main(String[] args) {
        sixtySealedOnes();
        freshC();
        freshBound();
        noiseAtTheHalf();
        opensBelowZero();
        drownedAtTheHalf();
        sumsWrap();
        productsWrap();
        plusK();
        timesK();
        boundsUpToAMillion();
        boundsAboveAMillion();
        anewOfTheLastThatIsNotDrowned();
        anewUnderWhichKey();
        masks();
        refusedMasks();
        works();
        refusedWorks();
        plains();
        refusedPlains();
        refusedAnews();
        sealedWhats();
        sealedThrows();
        noises();
        opens();
        DOC.end();
    }

    private static int c(SealedSums x, int a) {
        return Due.sealed(x, a, 1);
    }

    private static int bound(SealedSums x, int a) {
        return Due.sealed(x, a, 2);
    }

    private static SealedSums withSealed(int count) {
        SealedSums x = new SealedSums(5);
        x.key(9973, 10, 0);
        Due.read(x, "in a;out a;");
        Due.read(x, "in a;out 1;out 2;");
        for (int i = 0; i < count; i++) {
            x.mask(0, i % 5, i);
        }
        x.given(0, 0);
        return x;
    }

    private static void sixtySealedOnes() {
        DOC.says("Terms", "SEALED ones, 60 at most, numbered from 0 on");
        Twins.Call[] ways = {x -> x.mask(0, 1, 1), x -> x.work(0, 0, 1), x -> x.work(1, 0, 1), x -> x.work(2, 0, 1),
            x -> x.plain(3, 0, 1), x -> x.plain(4, 0, 1), x -> x.anew(0, 0, 1), x -> x.run(0, 0, 1)};
        for (int i = 0; i < ways.length; i++) {
            SealedSums x = withSealed(2);
            for (int a = 2; a < 60; a++) {
                DOC.is("way " + i + " makes " + a, ways[i].of(x), a);
            }
            DOC.is("count", x.count(1), 60);
            DOC.is("the last is there", x.noise(59) != -1000000, true);
            DOC.is("the first is still there", x.open(0), 0);
            DOC.refused("way " + i + " makes no 61st", () -> withSealed(60), ways[i], -1);
        }
    }

    /** T 13, P 101, Q 10, B 10: the noise of one may be above P, and X is 1010. */
    private static int freshC(int r, int e, int m) {
        SealedSums x = new SealedSums(13);
        x.key(101, 10, 10);
        x.mask(0, m, Houses.seedOf(10, r, 10, e));
        return c(x, 0);
    }

    private static void freshC() {
        DOC.says("Terms", "r is LOT Q, which 0; e is LOT (2 * B + 1), which 1, less B");
        DOC.is("the least r and e", freshC(0, -10, 12), 1010 - 130 + 12);
        DOC.is("the greatest r", freshC(9, 0, 0), 909);
        DOC.is("the greatest e", freshC(0, 10, 0), 130);
        DOC.says("Terms", "C is the rest of P * r + T * e + m by X (0 or more)");
        DOC.is("0 itself", freshC(0, 0, 0), 0);
        DOC.says("Terms", "each under a KEY: C (0 .. X - 1) and a BOUND");
        DOC.is("-1", freshC(0, -1, 12), 1009);
        DOC.is("-13", freshC(0, -1, 0), 997);
        DOC.is("-130", freshC(0, -10, 0), 880);
        DOC.is("X - 1", freshC(9, 7, 9), 1009);
        DOC.is("X", freshC(9, 7, 10), 0);
        DOC.is("X + 1", freshC(9, 7, 11), 1);
        DOC.is("X + 41", freshC(9, 10, 12), 41);
        SealedSums quiet = new SealedSums(13);
        quiet.key(101, 10, 0);
        for (int seed = 0; seed < 30; seed++) {
            quiet.mask(0, 12, seed);
            DOC.is("B 0: e is 0", c(quiet, seed), 101 * Model.draw(seed, 0, 10) + 12);
        }
        int[] seeds = {LEAST, LEAST + 1, -1, MOST};
        for (int seed : seeds) {
            SealedSums x = new SealedSums(13);
            x.key(99997, 1000, 10);
            x.mask(0, 5, seed);
            long due = 99997L * Model.draw(seed, 0, 1000) + 13 * (Model.draw(seed, 1, 21) - 10) + 5;
            DOC.is("seed " + seed, c(x, 0), Math.floorMod(due, 99997000L));
        }
    }

    private static void freshBound() {
        DOC.says("Terms", "BOUND T * B + T - 1");
        int[][] cases = {{2, 0, 1}, {2, 10, 21}, {13, 0, 12}, {13, 10, 142}};
        for (int[] one : cases) {
            SealedSums x = new SealedSums(one[0]);
            x.key(101, 10, one[1]);
            x.mask(0, 0, 1);
            x.mask(0, one[0] - 1, 2);
            DOC.is("T " + one[0] + ", B " + one[1] + " of 0", bound(x, 0), one[2]);
            DOC.is("T " + one[0] + ", B " + one[1] + " of T - 1", bound(x, 1), one[2]);
        }
    }

    private static int freshNoise(int r, int e, int m) {
        SealedSums x = new SealedSums(13);
        x.key(101, 10, 10);
        x.mask(0, m, Houses.seedOf(10, r, 10, e));
        return x.noise(0);
    }

    private static void noiseAtTheHalf() {
        DOC.says("Terms", "NOISE of C: the rest of C by P, of C and C - P that without sign the lesser");
        DOC.is("rest 0", freshNoise(4, 0, 0), 0);
        DOC.is("rest 1", freshNoise(4, 0, 1), 1);
        DOC.is("rest 50, half of P", freshNoise(4, 3, 11), 50);
        DOC.is("rest 51", freshNoise(4, 3, 12), -50);
        DOC.is("rest 100", freshNoise(4, -1, 12), -1);
        DOC.is("rest 100 of the greatest C", freshNoise(0, -1, 12), -1);
        DOC.is("rest 51 from below", freshNoise(4, -4, 2), -50);
        DOC.is("rest 50 from below", freshNoise(4, -4, 1), 50);
        DOC.is("P itself", freshNoise(4, 7, 10), 0);
        DOC.is("P and 1 more", freshNoise(4, 7, 11), 1);
    }

    /** T 13, one of BOUND and NOISE 48, and what is more. */
    private static SealedSums near(int p) {
        SealedSums x = new SealedSums(13);
        x.key(p, 10, 0);
        x.mask(0, 12, 1);
        x.plain(4, 0, 4);
        for (int k = 0; k < 6; k++) {
            x.plain(3, 1, k);
        }
        return x;
    }

    private static void opensBelowZero() {
        DOC.says("Terms", "It OPENS to the NOISE's rest by T.");
        SealedSums x = near(101);
        x.plain(4, 4, -1);
        DOC.is("noise 50", x.open(4), 11);
        DOC.is("noise -50", x.noise(8), -50);
        DOC.is("it opens to", x.open(8), 2);
        SealedSums y = new SealedSums(13);
        y.key(9973, 10, 0);
        y.mask(0, 1, 1);
        for (int k = 0; k <= 13; k++) {
            y.plain(4, 0, -k);
            DOC.is("noise", y.noise(k + 1), -k);
            DOC.is("noise " + -k + " opens to", y.open(k + 1), (13 - k) % 13);
        }
    }

    private static void drownedAtTheHalf() {
        DOC.says("Terms", "It is DROWNED if twice its BOUND is P or more.");
        int[] keys = {101, 103};
        for (int p : keys) {
            SealedSums x = near(p);
            for (int k = 0; k < 6; k++) {
                int bound = 48 + k;
                DOC.is("BOUND", bound(x, 2 + k), bound);
                DOC.is("BOUND " + bound + " under P " + p, Due.sealed(x, 2 + k, 3), 2 * bound >= p ? 1 : 0);
                DOC.is("it opens", x.open(2 + k), 2 * bound >= p ? -2 : bound % 13);
            }
        }
        DOC.is("50 is not, under 101", Due.sealed(near(101), 4, 3), 0);
        DOC.is("51 is, under 101", Due.sealed(near(101), 5, 3), 1);
        DOC.is("51 is not, under 103", Due.sealed(near(103), 5, 3), 0);
        DOC.is("52 is, under 103", Due.sealed(near(103), 6, 3), 1);
    }

    /** T 2, C's 0, 1 and X - 1. */
    private static SealedSums atTheEnds(int p, int q) {
        SealedSums x = new SealedSums(2);
        x.key(p, q, 1);
        int quiet = Houses.seedOf(q, 0, 1, 0);
        x.mask(0, 0, quiet);
        x.mask(0, 1, quiet);
        x.mask(0, 1, Houses.seedOf(q, 0, 1, -1));
        return x;
    }

    private static void worked(String call, int kind, int a, int b, long due) {
        int[][] keys = {{101, 10}, {99997, 1000}};
        for (int[] key : keys) {
            long modulus = (long) key[0] * key[1];
            SealedSums x = atTheEnds(key[0], key[1]);
            DOC.is("the greatest C", c(x, 2), modulus - 1);
            DOC.is(call, kind < 3 ? x.work(kind, a, b) : x.plain(kind, a, b), 3);
            DOC.is("X " + modulus + ": C of " + call, c(x, 3), due < 0 ? modulus + due : due);
        }
    }

    private static void sumsWrap() {
        DOC.says("Terms", "SUM, LESS: C's added, taken away, the rest by X (0 or more); BOUNDS added.");
        worked("0 + 0", 0, 0, 0, 0);
        worked("X - 1 + 0", 0, 2, 0, -1);
        worked("X - 1 + 1", 0, 2, 1, 0);
        worked("1 + X - 1", 0, 1, 2, 0);
        worked("X - 1 + X - 1", 0, 2, 2, -2);
        worked("0 - 0", 1, 0, 0, 0);
        worked("0 - 1", 1, 0, 1, -1);
        worked("0 - (X - 1)", 1, 0, 2, 1);
        worked("X - 1 - (X - 1)", 1, 2, 2, 0);
        worked("1 - (X - 1)", 1, 1, 2, 2);
        worked("X - 1 - 0", 1, 2, 0, -1);
        SealedSums x = atTheEnds(101, 10);
        x.work(0, 0, 1);
        x.work(1, 0, 0);
        x.work(1, 4, 3);
        DOC.is("SUM's BOUND", bound(x, 3), 6);
        DOC.is("LESS's BOUND, of one and itself", bound(x, 4), 6);
        DOC.is("LESS's BOUND", bound(x, 5), 12);
    }

    private static void productsWrap() {
        DOC.says("Terms", "PRODUCT: C's multiplied, likewise; BOUNDS multiplied.");
        worked("0 * (X - 1)", 2, 0, 2, 0);
        worked("1 * (X - 1)", 2, 1, 2, -1);
        worked("(X - 1) * 1", 2, 2, 1, -1);
        worked("(X - 1) * (X - 1)", 2, 2, 2, 1);
        worked("1 * 1", 2, 1, 1, 1);
        SealedSums x = atTheEnds(101, 10);
        x.work(2, 0, 1);
        x.plain(4, 0, 0);
        x.work(2, 4, 1);
        DOC.is("BOUND", bound(x, 3), 9);
        DOC.is("BOUND of 0 times 3", bound(x, 5), 0);
    }

    private static void plusK() {
        DOC.says("Terms", "PLUS k (0 .. T - 1): k more; BOUND k more.");
        worked("X - 1 plus 0", 3, 2, 0, -1);
        worked("X - 1 plus 1", 3, 2, 1, 0);
        worked("0 plus 0", 3, 0, 0, 0);
        for (int t = 2; t <= 13; t++) {
            SealedSums x = new SealedSums(t);
            x.key(9973, 10, 0);
            x.mask(0, 0, 1);
            DOC.is("T " + t + ": plus 0", x.plain(3, 0, 0), 1);
            DOC.is("C", c(x, 1), c(x, 0));
            DOC.is("BOUND", bound(x, 1), t - 1);
            DOC.is("T " + t + ": plus T - 1", x.plain(3, 0, t - 1), 2);
            DOC.is("C", c(x, 2), c(x, 0) + t - 1);
            DOC.is("BOUND", bound(x, 2), 2 * t - 2);
            DOC.is("T " + t + ": plus T", x.plain(3, 0, t), -1);
            DOC.is("T " + t + ": plus -1", x.plain(3, 0, -1), -1);
        }
    }

    private static void timesK() {
        DOC.says("Terms", "TIMES k (-T .. T): C * k, likewise; BOUND times k without sign (0 for 0).");
        worked("X - 1 times -2", 4, 2, -2, 2);
        worked("X - 1 times -1", 4, 2, -1, 1);
        worked("X - 1 times 0", 4, 2, 0, 0);
        worked("X - 1 times 1", 4, 2, 1, -1);
        worked("X - 1 times 2", 4, 2, 2, -2);
        worked("0 times -1", 4, 0, -1, 0);
        worked("0 times -2", 4, 0, -2, 0);
        worked("1 times -2", 4, 1, -2, -2);
        for (int t = 2; t <= 13; t++) {
            SealedSums x = new SealedSums(t);
            x.key(9973, 10, 0);
            x.mask(0, 1, 1);
            for (int k = -t; k <= t; k++) {
                DOC.is("T " + t + ": times " + k, x.plain(4, 0, k), k + t + 1);
                DOC.is("C", c(x, k + t + 1), Math.floorMod(c(x, 0) * k, 99730));
                DOC.is("BOUND", bound(x, k + t + 1), (t - 1) * Math.abs(k));
            }
            DOC.is("T " + t + ": times T + 1", x.plain(4, 0, t + 1), -1);
            DOC.is("T " + t + ": times -T - 1", x.plain(4, 0, -t - 1), -1);
        }
    }

    /** T 10: BOUNDS 999 (6), 1000 (10), 1001 (11). */
    private static SealedSums heavy() {
        SealedSums x = new SealedSums(10);
        x.key(99997, 1000, 0);
        x.mask(0, 1, 1);
        x.plain(4, 0, 10);
        x.plain(3, 1, 9);
        x.plain(4, 2, 10);
        x.plain(3, 3, 0);
        x.plain(3, 3, 8);
        x.plain(3, 3, 9);
        x.plain(3, 0, 1);
        x.plain(4, 7, 10);
        x.plain(4, 8, 10);
        x.plain(3, 9, 0);
        x.plain(3, 9, 1);
        return x;
    }

    private static void heavyBound(String call, Twins.Call made, int due) {
        SealedSums x = heavy();
        x.work(2, 6, 11);
        x.work(2, 10, 10);
        DOC.is("999 * 1001", bound(x, 12), 999999);
        DOC.is("1000 * 1000", bound(x, 13), 1000000);
        DOC.is(call, made.of(x), 14);
        DOC.is("BOUND of " + call, bound(x, 14), due);
    }

    private static void boundsUpToAMillion() {
        DOC.says("Terms", "A BOUND above 1000000 is 1000000.");
        DOC.is("999", bound(heavy(), 6), 999);
        DOC.is("1000", bound(heavy(), 10), 1000);
        DOC.is("1001", bound(heavy(), 11), 1001);
        heavyBound("999999 plus 0", x -> x.plain(3, 12, 0), 999999);
        heavyBound("999999 plus 1", x -> x.plain(3, 12, 1), 1000000);
        heavyBound("1000000 plus 0", x -> x.plain(3, 13, 0), 1000000);
        heavyBound("1000000 times 1", x -> x.plain(4, 13, 1), 1000000);
        heavyBound("1000000 times -1", x -> x.plain(4, 13, -1), 1000000);
        heavyBound("1000000 times 0", x -> x.plain(4, 13, 0), 0);
        heavyBound("999 * 1000", x -> x.work(2, 6, 10), 999000);
    }

    private static void boundsAboveAMillion() {
        DOC.says("Terms", "A BOUND above 1000000 is 1000000.");
        heavyBound("999999 plus 2", x -> x.plain(3, 12, 2), 1000000);
        heavyBound("1000000 plus 1", x -> x.plain(3, 13, 1), 1000000);
        heavyBound("1000 * 1001", x -> x.work(2, 10, 11), 1000000);
        heavyBound("999999 + 999", x -> x.work(0, 12, 6), 1000000);
        heavyBound("999999 - 999", x -> x.work(1, 12, 6), 1000000);
        heavyBound("1000000 + 1000000", x -> x.work(0, 13, 13), 1000000);
        heavyBound("1000000 times 10", x -> x.plain(4, 13, 10), 1000000);
        heavyBound("1000000 times -10", x -> x.plain(4, 13, -10), 1000000);
        // Beyond 32 bits: 10 to the 12 without its higher bits would be below 0.
        heavyBound("1000000 * 1000000", x -> x.work(2, 13, 13), 1000000);
        heavyBound("999999 * 999999", x -> x.work(2, 12, 12), 1000000);
    }

    private static void anewOfTheLastThatIsNotDrowned() {
        DOC.says("Terms", "of one that is not DROWNED, of a KEY that is alive: FRESH of what it OPENS to, by a SEED");
        SealedSums x = near(101);
        DOC.is("BOUND 50", x.anew(4, 0, 5), 8);
        DOC.is("it opens to 50 by 13", x.open(8), 11);
        DOC.is("its BOUND is new", bound(x, 8), 12);
        DOC.is("as masked", x.mask(0, 11, 5), 9);
        DOC.is("C", c(x, 8), c(x, 9));
        DOC.refused("BOUND 51", () -> near(101), y -> y.anew(5, 0, 5), -2);
        DOC.is("BOUND 51 under 103", near(103).anew(5, 0, 5), 8);
        DOC.refused("BOUND 52 under 103", () -> near(103), y -> y.anew(6, 0, 5), -2);
        int[] seeds = {LEAST, -1, 0, MOST};
        for (int seed : seeds) {
            SealedSums y = near(101);
            y.anew(4, 0, seed);
            y.mask(0, 11, seed);
            DOC.is("seed " + seed, c(y, 8), c(y, 9));
        }
    }

    private static void anewUnderWhichKey() {
        DOC.says("Terms", "ANEW (under its own or another KEY, alive)");
        SealedSums x = Houses.small();
        DOC.is("its own", x.anew(2, 0, 5), 7);
        DOC.is("another", x.anew(2, 1, 5), 8);
        DOC.is("key", Due.sealed(x, 7, 0), 0);
        DOC.is("key", Due.sealed(x, 8, 0), 1);
        DOC.is("open", x.open(7), 2);
        DOC.is("open", x.open(8), 2);
        // Under a KEY whose FRESH ones are drowned it is made, and is drowned.
        SealedSums y = new SealedSums(13);
        y.key(9973, 10, 0);
        y.key(101, 10, 10);
        y.mask(0, 3, 1);
        DOC.is("under a key too small", y.anew(0, 1, 1), 1);
        DOC.is("it is drowned", Due.sealed(y, 1, 3), 1);
        DOC.is("it leads nowhere", y.anew(1, 0, 1), -2);
    }

    private static void masks() {
        DOC.says("Promise 9", "FRESH of a number m (0 .. T - 1): its number.");
        for (int t = 2; t <= 13; t++) {
            SealedSums x = new SealedSums(t);
            for (int i = 0; i < 4; i++) {
                x.key(9973, 10, 1);
            }
            DOC.is("m 0 under the first", x.mask(0, 0, 1), 0);
            DOC.is("m T - 1 under the last", x.mask(3, t - 1, 1), 1);
            DOC.is("it opens", x.open(0), 0);
            DOC.is("it opens", x.open(1), t - 1);
            DOC.is("its key", Due.sealed(x, 1, 0), 3);
            DOC.is("m T", x.mask(0, t, 1), -1);
            DOC.is("m -1", x.mask(0, -1, 1), -1);
            DOC.is("key 4", x.mask(4, 0, 1), -1);
        }
    }

    private static void refusedMasks() {
        DOC.says("Promise 9", "NONE, and nothing happens: 60 are there, no such ones, a dead KEY.");
        DOC.refused("60 are there", Houses::full, x -> x.mask(0, 0, 1), -1);
        DOC.refused("no key is there", () -> new SealedSums(5), x -> x.mask(0, 0, 1), -1);
        int[] noKey = {-1, 3, LEAST, MOST};
        for (int key : noKey) {
            DOC.refused("key " + key, Houses::small, x -> x.mask(key, 0, 1), -1);
        }
        int[] noNumber = {-1, 5, LEAST, MOST, 1005, -5};
        for (int m : noNumber) {
            DOC.refused("m " + m, Houses::small, x -> x.mask(0, m, 1), -1);
        }
        DOC.refused("a dead key", Houses::small, x -> x.mask(2, 0, 1), -1);
    }

    private static void works() {
        DOC.says("Terms", "Works on those of one KEY, alive");
        SealedSums both = Houses.small();
        DOC.is("under the first", both.work(0, 0, 3), 7);
        DOC.is("its key", Due.sealed(both, 7, 0), 0);
        DOC.is("under the second", both.work(0, 4, 4), 8);
        DOC.is("its key", Due.sealed(both, 8, 0), 1);
        DOC.is("as long as it is alive", both.dead(1), true);
        DOC.is("no more", both.work(0, 4, 4), -1);
        DOC.is("the other still", both.work(0, 7, 7), 9);
        DOC.says("Promise 10", "A work on two: kind 0 SUM, 1 LESS, 2 PRODUCT: its number.");
        SealedSums x = Houses.small();
        for (int kind = 0; kind < 3; kind++) {
            DOC.is("kind " + kind, x.work(kind, 0, 1), 7 + kind);
            DOC.is("its kind", Due.sealed(x, 7 + kind, 4), kind + 1);
        }
        DOC.is("one and itself", x.work(1, 9, 9), 10);
        SealedSums drowned = Houses.small();
        DOC.is("of drowned ones", drowned.work(0, 3, 3), 7);
        SealedSums last = withSealed(59);
        DOC.is("the last of all", last.work(0, 58, 58), 59);
        DOC.is("its C", c(last, 59), 2 * c(last, 58) % 99730);
    }

    private static void refusedWorks() {
        DOC.says("Promise 10", "NONE, and nothing happens: 60 are there, no such ones, of two KEYS, a dead one.");
        int[] noKind = {-1, 3, 4, LEAST, MOST};
        for (int kind : noKind) {
            DOC.refused("kind " + kind, Houses::small, x -> x.work(kind, 0, 1), -1);
        }
        for (int kind = 0; kind < 3; kind++) {
            int sort = kind;
            for (int none : NO_NUMBER) {
                DOC.refused("no first", Houses::small, x -> x.work(sort, none, 0), -1);
                DOC.refused("no second", Houses::small, x -> x.work(sort, 0, none), -1);
            }
            DOC.refused("60 are there", Houses::full, x -> x.work(sort, 0, 1), -1);
            DOC.refused("of two keys", Houses::small, x -> x.work(sort, 0, 4), -1);
            DOC.refused("of two keys", Houses::small, x -> x.work(sort, 4, 0), -1);
            DOC.refused("a dead one", Houses::small, x -> x.work(sort, 5, 5), -1);
            DOC.refused("of two keys, the second dead", Houses::small, x -> x.work(sort, 0, 5), -1);
            DOC.refused("of two keys, the first dead", Houses::small, x -> x.work(sort, 5, 0), -1);
        }
        SealedSums alike = new SealedSums(5);
        alike.key(101, 10, 0);
        alike.key(101, 10, 0);
        alike.mask(0, 1, 1);
        alike.mask(1, 1, 1);
        DOC.is("of two keys that are alike", alike.work(0, 0, 1), -1);
    }

    private static void plains() {
        DOC.says("Promise 11", "PLUS (kind 3), TIMES (4) of one: its number.");
        SealedSums x = Houses.small();
        DOC.is("kind 3", x.plain(3, 0, 4), 7);
        DOC.is("kind 4", x.plain(4, 0, 5), 8);
        DOC.is("kind 4", x.plain(4, 0, -5), 9);
        DOC.is("PLUS", Due.sealed(x, 7, 4), 4);
        DOC.is("TIMES", Due.sealed(x, 8, 4), 5);
        DOC.is("of a drowned one", x.plain(3, 3, 0), 10);
    }

    private static void refusedPlains() {
        DOC.says("Promise 11", "NONE, and nothing happens: 60 are there, no such ones, a dead KEY.");
        int[] noKind = {-1, 0, 1, 2, 5, 6, LEAST, MOST};
        for (int kind : noKind) {
            DOC.refused("kind " + kind, Houses::small, x -> x.plain(kind, 0, 1), -1);
        }
        int[] noPlus = {-1, 5, -5, 6, LEAST, MOST};
        for (int k : noPlus) {
            DOC.refused("plus " + k, Houses::small, x -> x.plain(3, 0, k), -1);
        }
        int[] noTimes = {-6, 6, LEAST, LEAST + 1, MOST};
        for (int k : noTimes) {
            DOC.refused("times " + k, Houses::small, x -> x.plain(4, 0, k), -1);
        }
        for (int kind = 3; kind < 5; kind++) {
            int sort = kind;
            for (int none : NO_NUMBER) {
                DOC.refused("no such one", Houses::small, x -> x.plain(sort, none, 1), -1);
            }
            DOC.refused("60 are there", Houses::full, x -> x.plain(sort, 0, 1), -1);
            DOC.refused("a dead key", Houses::small, x -> x.plain(sort, 5, 1), -1);
        }
    }

    private static void refusedAnews() {
        DOC.says("Promise 12", "ANEW: its number.");
        DOC.is("the last of all", withSealed(59).anew(58, 0, 1), 59);
        DOC.says("Promise 12", "NONE, and nothing happens: 60 are there, no such ones, a dead KEY (one of the two)");
        DOC.refused("60 are there", Houses::full, x -> x.anew(0, 0, 1), -1);
        for (int none : NO_NUMBER) {
            DOC.refused("no such one", Houses::small, x -> x.anew(none, 0, 1), -1);
        }
        int[] noKey = {-1, 3, LEAST, MOST};
        for (int key : noKey) {
            DOC.refused("key " + key, Houses::small, x -> x.anew(0, key, 1), -1);
        }
        DOC.refused("under a dead key", Houses::small, x -> x.anew(0, 2, 1), -1);
        DOC.refused("of a dead key", Houses::small, x -> x.anew(5, 0, 1), -1);
        DOC.refused("of and under a dead key", Houses::small, x -> x.anew(5, 2, 1), -1);
        DOC.says("Promise 12", "-2, and nothing happens: it is DROWNED.");
        DOC.refused("drowned", Houses::small, x -> x.anew(3, 0, 1), -2);
        DOC.refused("drowned, under another", Houses::small, x -> x.anew(3, 1, 1), -2);
        DOC.refused("drowned, of a dead key", Houses::small, x -> x.anew(6, 0, 1), -1);
        DOC.refused("drowned, under a dead key", Houses::small, x -> x.anew(3, 2, 1), -1);
        DOC.refused("drowned, 60 are there", Houses::full, x -> x.anew(3, 0, 1), -1);
    }

    private static void sealedWhats() {
        DOC.says("Promise 13", "4: 0 FRESH, 1 SUM, 2 LESS, 3 PRODUCT, 4 PLUS, 5 TIMES, 6 ANEW, 7 an out");
        SealedSums x = withSealed(1);
        x.work(0, 0, 0);
        x.work(1, 0, 0);
        x.work(2, 0, 0);
        x.plain(3, 0, 1);
        x.plain(4, 0, 1);
        x.anew(0, 0, 1);
        x.run(0, 0, 1);
        for (int kind = 0; kind < 8; kind++) {
            DOC.is("kind", Due.sealed(x, kind, 4), kind);
        }
        DOC.says("Promise 13", "what 0 its KEY, 1 C, 2 BOUND, 3: 1 if it is DROWNED, else 0");
        SealedSums y = Houses.small();
        DOC.is("key", Due.sealed(y, 4, 0), 1);
        DOC.is("C", Due.sealed(y, 0, 1), 101 * Model.draw(7, 0, 10) + 3);
        DOC.is("BOUND", Due.sealed(y, 3, 2), 64);
        DOC.is("not drowned", Due.sealed(y, 2, 3), 0);
        DOC.is("drowned", Due.sealed(y, 3, 3), 1);
        DOC.is("drowned, of a dead key", Due.sealed(y, 6, 3), 1);
        DOC.is("the last of all", Due.sealed(Houses.full(), 59, 2), 4);
    }

    private static void sealedThrows() {
        DOC.says("Promise 13", "It throws if there is none such, and for another what.");
        for (int none : NO_NUMBER) {
            for (int what = 0; what < 5; what++) {
                int asked = what;
                DOC.refused("sealed(" + none + ", " + what + ")", Houses::small, x -> Due.sealed(x, none, asked),
                    Due.NO_SUCH);
            }
        }
        DOC.is("none is there", Due.sealed(new SealedSums(5), 0, 0), Due.NO_SUCH);
        DOC.is("a 61st", Due.sealed(Houses.full(), 60, 0), Due.NO_SUCH);
        int[] noWhat = {-1, 5, LEAST, MOST};
        for (int what : noWhat) {
            DOC.refused("sealed(0, " + what + ")", Houses::small, x -> Due.sealed(x, 0, what), Due.NO_WHAT);
            DOC.refused("sealed(6, " + what + ")", Houses::small, x -> Due.sealed(x, 6, what), Due.NO_WHAT);
            DOC.refused("sealed(7, " + what + ")", Houses::small, x -> Due.sealed(x, 7, what), Due.NO_SUCH);
        }
    }

    private static void noises() {
        DOC.says("Promise 14", "Its NOISE; -1000000: no such one.");
        SealedSums x = Houses.small();
        DOC.is("the first", x.noise(0), 3);
        DOC.is("a drowned one", x.noise(3), 48);
        DOC.is("the last, of a dead key", x.noise(6) != -1000000, true);
        DOC.is("the 60th", Houses.full().noise(59), 1);
        for (int none : NO_NUMBER) {
            DOC.refused("noise(" + none + ")", Houses::small, y -> y.noise(none), -1000000);
        }
        DOC.is("a 61st", Houses.full().noise(60), -1000000);
        DOC.is("none is there", new SealedSums(5).noise(0), -1000000);
    }

    private static void opens() {
        DOC.says("Promise 15", "What it OPENS to; -3: its KEY is dead; else -2: it is DROWNED; NONE: no such one.");
        SealedSums x = Houses.small();
        DOC.is("the first", x.open(0), 3);
        DOC.is("drowned", x.open(3), -2);
        DOC.is("dead", x.open(5), -3);
        DOC.is("dead and drowned", x.open(6), -3);
        DOC.is("the 60th", Houses.full().open(59), 1);
        for (int none : NO_NUMBER) {
            DOC.refused("open(" + none + ")", Houses::small, y -> y.open(none), -1);
        }
        DOC.is("a 61st", Houses.full().open(60), -1);
        DOC.is("none is there", new SealedSums(5).open(0), -1);
        DOC.refused("a drowned one", Houses::small, y -> y.open(3), -2);
        DOC.refused("a dead key's", Houses::small, y -> y.open(5), -3);
    }
}
