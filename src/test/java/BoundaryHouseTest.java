/** Each boundary that the document names of T, LOTS, KEYS, the BUDGET and counts: promises 1, 6, 7, 8, 16, 17, 35. */
public final class BoundaryHouseTest {
    private static final int LEAST = Integer.MIN_VALUE;
    private static final int MOST = Integer.MAX_VALUE;
    private static final Sentences DOC = new Sentences("What it is", "Terms", "Promise 1", "Promise 6", "Promise 7",
        "Promise 8", "Promise 16", "Promise 17", "Promise 35");

    public static void main(String[] args) {
        the512thCall();
        constructorsT();
        newObjectIsEmpty();
        plainNumbersAreRests();
        lotsN();
        lotsWrap();
        fourKeys();
        keysP();
        keysPrimes();
        keysQ();
        keysB();
        keysX();
        refusedKeys();
        deadKeys();
        budgets();
        openingWidths();
        openingTakes();
        openingAdds();
        refusedOpenings();
        counts();
        DOC.end();
    }

    private static void the512thCall() {
        DOC.says("What it is", "An object is used for at most 512 calls after it has been made");
        SealedSums x = new SealedSums(5);
        x.key(1009, 100, 1);
        x.mask(0, 3, 7);
        for (int call = 3; call <= 508; call++) {
            DOC.is("call " + call, x.lot(call, 0, 100), Model.draw(call, 0, 100));
        }
        DOC.is("the 509th", x.mask(0, 2, 7), 1);
        DOC.is("the 510th", x.work(0, 0, 1), 2);
        DOC.is("the 511th", x.read(), 0);
        DOC.is("the 512th", x.open(2), 0);
    }

    private static void constructorsT() {
        DOC.says("Terms", "T (2 .. 13) is told to the constructor");
        for (int t = 2; t <= 13; t++) {
            DOC.is("T of " + t, new SealedSums(t).count(5), t);
        }
        DOC.says("Promise 1", "T; 2 if it is not 2 .. 13.");
        int[] others = {1, 14, 0, -1, -2, -13, 15, 258, LEAST, LEAST + 2, MOST};
        for (int t : others) {
            SealedSums x = new SealedSums(t);
            DOC.is("T of " + t, x.count(5), 2);
            x.key(101, 10, 0);
            DOC.is("the greatest plain number", x.mask(0, 1, 1), 0);
            DOC.is("none above it", x.mask(0, 2, 1), -1);
        }
    }

    private static void newObjectIsEmpty() {
        DOC.says("Terms", "A BUDGET (0 at first)");
        DOC.is("the budget", new SealedSums(5).count(4), 0);
        DOC.says("Promise 35", "0 KEYS, 1 SEALED ones, 2 PROGRAMS, 3 bytes on the tape, 4 the BUDGET, 5 T");
        SealedSums x = new SealedSums(5);
        for (int what = 0; what < 5; what++) {
            DOC.is("count(" + what + ") of a new one", x.count(what), 0);
        }
    }

    private static void plainNumbersAreRests() {
        DOC.says("Terms", "all plain numbers are 0 .. T - 1, as rests by T (0 or more)");
        for (int t = 2; t <= 13; t++) {
            SealedSums x = new SealedSums(t);
            x.key(9973, 10, 0);
            DOC.is("0", x.mask(0, 0, 1), 0);
            DOC.is("T - 1", x.mask(0, t - 1, 1), 1);
            DOC.is("T", x.mask(0, t, 1), -1);
            DOC.is("-1", x.mask(0, -1, 1), -1);
            x.work(1, 0, 1);
            DOC.is("0 less T - 1 opens to 1", x.open(2), 1);
            x.plain(3, 1, 1);
            DOC.is("T - 1 and 1 more open to 0", x.open(3), 0);
            Due.read(x, "out 9999;out 0-1;out 0;out 4*4;");
            DOC.is("9999", x.outs(0, 0), -30 - 9999 % t);
            DOC.is("0 - 1", x.outs(0, 1), -30 - (t - 1));
            DOC.is("0", x.outs(0, 2), -30);
            DOC.is("4 * 4", x.outs(0, 3), -30 - 16 % t);
        }
    }

    private static void lotsN() {
        DOC.says("Terms", "LOT n (n at least 1) of a SEED and a which");
        SealedSums x = new SealedSums(5);
        DOC.is("n 1", x.lot(123, 4, 1), 0);
        DOC.says("Promise 6", "LOT n (1 .. 1000000) of a SEED and a which; NONE: no such n.");
        DOC.is("n 2", x.lot(123, 4, 2), Model.draw(123, 4, 2));
        DOC.is("n 1000000", x.lot(123, 4, 1000000), Model.draw(123, 4, 1000000));
        DOC.is("n 999999", x.lot(123, 4, 999999), Model.draw(123, 4, 999999));
        int[] none = {0, -1, -2, LEAST, 1000001, 1000002, MOST};
        for (int n : none) {
            DOC.is("n " + n, x.lot(123, 4, n), -1);
            DOC.refused("lot of n " + n, Houses::small, y -> y.lot(123, 4, n), -1);
        }
    }

    private static void lotsWrap() {
        DOC.says("Terms", "(32 bits that wrap.)");
        SealedSums x = new SealedSums(5);
        int[] edges = {LEAST, LEAST + 1, -7, -1, 0, 1, 7, MOST - 1, MOST};
        for (int seed : edges) {
            for (int which : edges) {
                String call = "lot(" + seed + ", " + which + ", 1000000)";
                DOC.is(call, x.lot(seed, which, 1000000), Model.draw(seed, which, 1000000));
            }
        }
        DOC.says("Terms", "then h and h moved 15 bits down (zeros come in), likewise");
        // Found with numbers that have no end (BigInteger), cut to 32 bits after each step.
        DOC.is("lot(0, 0, 1000000)", x.lot(0, 0, 1000000), 645596);
        DOC.is("lot(MOST, LEAST, 1000000)", x.lot(MOST, LEAST, 1000000), 527403);
        DOC.says("Terms", "at last the rest of h, moved 1 bit down likewise, by n");
        for (int seed = -50; seed < 50; seed++) {
            int lot = x.lot(seed, 0, 1000);
            DOC.is("0 or more, below n", lot >= 0 && lot < 1000, true);
        }
    }

    private static void fourKeys() {
        DOC.says("Terms", "KEYS, 4 at most, numbered from 0 on");
        SealedSums x = new SealedSums(5);
        for (int i = 0; i < 4; i++) {
            DOC.is("key " + i, x.key(101, 10, 0), i);
            DOC.is("count", x.count(0), i + 1);
        }
        DOC.is("a fifth", x.key(101, 10, 0), -1);
        DOC.is("count", x.count(0), 4);
        x.dead(3);
        DOC.is("a fifth, one being dead", x.key(101, 10, 0), -1);
        DOC.is("count", x.count(0), 4);
    }

    private static void keyOf(String what, int p, int q, int b, boolean can) {
        SealedSums x = new SealedSums(5);
        DOC.is(what, x.key(p, q, b), can ? 0 : -1);
        DOC.is(what + ": count", x.count(0), can ? 1 : 0);
    }

    private static void keysP() {
        DOC.says("Terms", "P odd (101 .. 99999");
        keyOf("P 101", 101, 10, 0, true);
        keyOf("P 103", 103, 10, 0, true);
        // 97 is the prime below; 100003 that above; 99997 is 19 * 5263, 99999 a multiple of 3.
        keyOf("P 97", 97, 10, 0, false);
        keyOf("P 99997", 99997, 10, 0, true);
        keyOf("P 100003", 100003, 10, 0, false);
        int[] even = {100, 102, 104, 998, 99998, 100000};
        for (int p : even) {
            keyOf("P " + p, p, 10, 0, false);
        }
        int[] far = {0, 1, 17, -1, -101, -103, LEAST, LEAST + 101, MOST, MOST - 1, 1000003};
        for (int p : far) {
            keyOf("P " + p, p, 10, 0, false);
        }
    }

    private static void keysPrimes() {
        DOC.says("Terms", "no multiple of an odd prime up to 13");
        int[] primes = {3, 5, 7, 11, 13};
        int[] others = {17, 19, 23, 29, 31, 37, 41, 43};
        for (int prime : primes) {
            for (int other : others) {
                if (prime * other >= 101) {
                    keyOf("P " + prime + " * " + other, prime * other, 10, 0, false);
                }
            }
            int greatest = 99999 / prime;
            keyOf("P of " + prime, prime * (greatest % 2 == 1 ? greatest : greatest - 1), 10, 0, false);
        }
        for (int one : others) {
            for (int other : others) {
                keyOf("P " + one + " * " + other, one * other, 10, 0, true);
            }
        }
        keyOf("P 17 * 17 * 17", 4913, 10, 0, true);
    }

    private static void keysQ() {
        DOC.says("Terms", "Q (10 .. 1000)");
        keyOf("Q 10", 101, 10, 0, true);
        keyOf("Q 1000", 101, 1000, 0, true);
        int[] none = {9, 1001, 0, -1, -10, LEAST, MOST};
        for (int q : none) {
            keyOf("Q " + q, 101, q, 0, false);
        }
    }

    private static void keysB() {
        DOC.says("Terms", "B (0 .. 10)");
        keyOf("B 0", 101, 10, 0, true);
        keyOf("B 10", 101, 10, 10, true);
        int[] none = {-1, 11, -10, LEAST, MOST};
        for (int b : none) {
            keyOf("B " + b, 101, 10, b, false);
        }
    }

    private static void keysX() {
        DOC.says("Terms", "X is P * Q.");
        int[][] keys = {{101, 10}, {101, 1000}, {99997, 10}, {99997, 1000}};
        for (int[] key : keys) {
            SealedSums x = new SealedSums(2);
            x.key(key[0], key[1], 1);
            // r 0 and e -1: C is -2 and 1 more, so the greatest there is.
            x.mask(0, 1, Houses.seedOf(key[1], 0, 1, -1));
            DOC.is("the greatest C", Due.sealed(x, 0, 1), (long) key[0] * key[1] - 1);
        }
    }

    private static void refusedKeys() {
        DOC.says("Promise 7", "A KEY: its number.");
        DOC.is("the fourth of four", Houses.small().key(101, 10, 0), 3);
        DOC.says("Promise 7", "NONE, and nothing happens: 4 are there, no such ones.");
        DOC.refused("a fifth key", Houses::full, x -> x.key(101, 10, 0), -1);
        DOC.refused("P 99", Houses::small, x -> x.key(99, 10, 0), -1);
        DOC.refused("P 102", Houses::small, x -> x.key(102, 10, 0), -1);
        DOC.refused("P 221", Houses::small, x -> x.key(221, 10, 0), -1);
        DOC.refused("P 100003", Houses::small, x -> x.key(100003, 10, 0), -1);
        DOC.refused("Q 9", Houses::small, x -> x.key(101, 9, 0), -1);
        DOC.refused("Q 1001", Houses::small, x -> x.key(101, 1001, 0), -1);
        DOC.refused("B -1", Houses::small, x -> x.key(101, 10, -1), -1);
        DOC.refused("B 11", Houses::small, x -> x.key(101, 10, 11), -1);
        DOC.refused("all wrong", Houses::small, x -> x.key(LEAST, LEAST, LEAST), -1);
    }

    private static void deadKeys() {
        DOC.says("Terms", "it is alive, or dead");
        SealedSums x = new SealedSums(5);
        x.key(101, 10, 0);
        DOC.is("it is alive at first", x.mask(0, 1, 1), 0);
        DOC.says("Promise 8", "A KEY is dead: true; false: no such one, it is.");
        DOC.is("it dies", x.dead(0), true);
        DOC.is("it is no more alive", x.mask(0, 1, 1), -1);
        SealedSums four = new SealedSums(5);
        for (int i = 0; i < 4; i++) {
            four.key(101, 10, 0);
        }
        DOC.is("the last", four.dead(3), true);
        DOC.is("the first", four.dead(0), true);
        DOC.is("another lives on", four.mask(1, 1, 1), 0);
        DOC.is("a fifth", four.dead(4), false);
        DOC.is("none is there", new SealedSums(5).dead(0), false);
        DOC.denied("key 3 of three", Houses::small, y -> y.dead(3));
        DOC.denied("key -1", Houses::small, y -> y.dead(-1));
        DOC.denied("the least", Houses::small, y -> y.dead(LEAST));
        DOC.denied("the most", Houses::small, y -> y.dead(MOST));
        DOC.denied("a dead one", Houses::small, y -> y.dead(2));
    }

    private static void budgets() {
        DOC.says("Promise 16", "The BUDGET becomes v (0 .. 10000): true; false for others.");
        SealedSums x = new SealedSums(5);
        int[] can = {10000, 0, 1, 9999};
        for (int v : can) {
            DOC.is("budget(" + v + ")", x.budget(v), true);
            DOC.is("it is " + v, x.count(4), v);
        }
        int[] others = {-1, 10001, LEAST, MOST};
        for (int v : others) {
            DOC.denied("budget(" + v + ")", Houses::small, y -> y.budget(v));
        }
    }

    private static void openingWidths() {
        DOC.says("Promise 17", "An OPENING with width a (0 .. 5) by a SEED");
        SealedSums x = Houses.small();
        DOC.is("width 0", x.opening(0, 0, 3), 3);
        x.budget(100);
        DOC.is("width 5", x.opening(0, 5, 3), Math.floorMod(3 + Model.draw(3, 2, 11) - 5, 5));
        DOC.says("Promise 17", "NONE, and nothing happens: no such ones");
        int[] none = {-1, 6, LEAST, MOST, -2};
        for (int a : none) {
            DOC.refused("width " + a, Houses::small, y -> y.opening(0, a, 3), -1);
        }
        int[] noSuch = {-1, 7, LEAST, MOST};
        for (int s : noSuch) {
            DOC.refused("sealed one " + s, Houses::small, y -> y.opening(s, 0, 3), -1);
        }
        DOC.is("the last one that is there", Houses.full().opening(59, 0, 3), 1);
        DOC.is("a 61st", Houses.full().opening(60, 0, 3), -1);
        DOC.refused("none is there", () -> new SealedSums(5), y -> y.opening(0, 0, 3), -1);
    }

    private static void openingTakes() {
        DOC.says("Terms", "an OPENING with width a (0 .. 5) takes 60 / (a + 1) of it");
        int[] takes = {60, 30, 20, 15, 12, 10};
        for (int a = 0; a < 6; a++) {
            SealedSums x = Houses.small();
            x.budget(takes[a]);
            DOC.is("just enough for width " + a, x.opening(0, a, 3) >= 0, true);
            DOC.is("nothing is left", x.count(4), 0);
            x.budget(10000);
            x.opening(0, a, 3);
            DOC.is("so much is taken", x.count(4), 10000 - takes[a]);
        }
        DOC.says("Promise 17", "-4 the BUDGET has not so much");
        for (int a = 0; a < 6; a++) {
            int width = a;
            Twins.House poor = () -> {
                SealedSums x = Houses.small();
                x.budget(takes[width] - 1);
                return x;
            };
            DOC.refused("one too few for width " + a, poor, x -> x.opening(0, width, 3), -4);
        }
        DOC.is("0 at first", empty().opening(0, 5, 3), -4);
    }

    private static SealedSums empty() {
        SealedSums x = new SealedSums(5);
        x.key(101, 10, 0);
        x.mask(0, 3, 7);
        return x;
    }

    private static void openingAdds() {
        DOC.says("Terms", "and adds LOT (2 * a + 1), which 2, of a SEED, less a");
        DOC.says("Promise 17", "the rest by T of what it OPENS to and what is added");
        int[] ts = {2, 13};
        for (int t : ts) {
            for (int a = 0; a < 6; a++) {
                for (int lot = 0; lot <= 2 * a; lot++) {
                    addsLotLessWidth(t, a, lot);
                }
            }
        }
    }

    /** Of 0 and of T - 1, so that the rest by T is taken at both ends. */
    private static void addsLotLessWidth(int t, int a, int lot) {
        int seed = 0;
        while (Model.draw(seed, 2, 2 * a + 1) != lot) {
            seed++;
        }
        SealedSums x = new SealedSums(t);
        x.key(101, 10, 0);
        x.mask(0, 0, 1);
        x.mask(0, t - 1, 1);
        x.budget(120);
        String name = "T " + t + ", width " + a + " adds " + (lot - a);
        DOC.is(name + " to 0", x.opening(0, a, seed), Math.floorMod(lot - a, t));
        DOC.is(name + " to T - 1", x.opening(1, a, seed), Math.floorMod(t - 1 + lot - a, t));
    }

    private static void refusedOpenings() {
        DOC.says("Promise 17", "likewise, the first that is so: -3 a dead KEY, -2 it is DROWNED, -4 the BUDGET");
        Twins.House poor = () -> {
            SealedSums x = Houses.small();
            x.budget(0);
            return x;
        };
        DOC.refused("a dead key", Houses::small, x -> x.opening(5, 0, 3), -3);
        DOC.refused("a dead key, drowned", Houses::small, x -> x.opening(6, 0, 3), -3);
        DOC.refused("a dead key, no budget", poor, x -> x.opening(5, 0, 3), -3);
        DOC.refused("a dead key, drowned, no budget", poor, x -> x.opening(6, 0, 3), -3);
        DOC.refused("drowned", Houses::small, x -> x.opening(3, 0, 3), -2);
        DOC.refused("drowned, no budget", poor, x -> x.opening(3, 0, 3), -2);
        DOC.refused("no budget", poor, x -> x.opening(0, 5, 3), -4);
        DOC.refused("no such width of a dead key's", Houses::small, x -> x.opening(5, 6, 3), -1);
        DOC.refused("no such width of a drowned one", Houses::small, x -> x.opening(3, -1, 3), -1);
        DOC.refused("no such width, no budget", poor, x -> x.opening(0, 6, 3), -1);
    }

    private static void counts() {
        DOC.says("Promise 35", "10 and a PROGRAM's number: its ins, 20 likewise: its outs. NONE for others.");
        SealedSums small = Houses.small();
        int[] due = {3, 7, 3, 10, 100, 5, -1, -1, -1, -1, 2, 0, 1, -1, -1, -1, -1, -1, -1, -1, 3, 1, 0, -1, -1};
        for (int what = 0; what < due.length; what++) {
            DOC.is("count(" + what + ")", small.count(what), due[what]);
        }
        SealedSums four = Houses.fourPrograms();
        DOC.is("the fourth's ins", four.count(13), 1);
        DOC.is("behind it", four.count(14), -1);
        DOC.is("the fourth's outs", four.count(23), 1);
        DOC.is("behind it", four.count(24), -1);
        DOC.is("no program, ins", new SealedSums(5).count(10), -1);
        DOC.is("no program, outs", new SealedSums(5).count(20), -1);
        int[] others = {-1, -10, -20, LEAST, LEAST + 5, LEAST + 10, LEAST + 20, MOST, 30, 100};
        for (int what : others) {
            DOC.refused("count(" + what + ")", Houses::small, x -> x.count(what), -1);
        }
        SealedSums full = Houses.full();
        full.budget(10000);
        full.back(10);
        Due.feed(full, " ".repeat(2000));
        int[] most = {4, 60, 3, 2000, 10000};
        for (int what = 0; what < most.length; what++) {
            DOC.is("count(" + what + ") when it is full", full.count(what), most[what]);
        }
    }
}
