/** Promises 1, 6 to 17 and 35: lots, keys, sealed ones, the budget, counts. */
public final class SealedPromisesTest {
    private static final Due DUE = new Due();
    private static final int LEAST = Integer.MIN_VALUE;
    private static final int MOST = Integer.MAX_VALUE;

    public static void main(String[] args) {
        promise1();
        promise6();
        promise7();
        promise8();
        promise9();
        promise10();
        promise11();
        promise12();
        promise13();
        promise14();
        promise15();
        promise16();
        promise17();
        promise35();
        DUE.end();
    }

    private static void promise1() {
        DUE.topic("promise 1");
        for (int t = -3; t < 20; t++) {
            DUE.is("T of " + t, new SealedSums(t).count(5), t < 2 || t > 13 ? 2 : t);
        }
        DUE.is("T of the least int", new SealedSums(LEAST).count(5), 2);
        DUE.is("T of the greatest int", new SealedSums(MOST).count(5), 2);
        SealedSums x = new SealedSums(7);
        for (int what = 0; what < 5; what++) {
            DUE.is("count(" + what + ")", x.count(what), 0);
        }
        DUE.is("NONE", SealedSums.NONE, -1);
    }

    private static void promise6() {
        DUE.topic("promise 6");
        SealedSums x = new SealedSums(5);
        DUE.is("lot", x.lot(0, 0, 1000000), 645596);
        DUE.is("lot", x.lot(1, 0, 1000000), 613869);
        DUE.is("lot", x.lot(-1, 5, 1000000), 443718);
        DUE.is("lot", x.lot(MOST, LEAST, 1000000), 527403);
        DUE.is("lot", x.lot(LEAST, 2, 7), 0);
        DUE.is("lot", x.lot(42, 1, 21), 9);
        DUE.is("lot of 1", x.lot(42, 1, 1), 0);
        DUE.is("lot of 0", x.lot(42, 1, 0), -1);
        DUE.is("lot of -5", x.lot(42, 1, -5), -1);
        DUE.is("lot of 1000001", x.lot(42, 1, 1000001), -1);
        DUE.is("lot of the least int", x.lot(42, 1, LEAST), -1);
    }

    private static void promise7() {
        DUE.topic("promise 7");
        SealedSums x = new SealedSums(5);
        int[] noP = {99, 100, 102, 105, 111, 115, 119, 121, 143, 169, 99999, 100001, 0, -101, LEAST, MOST};
        for (int p : noP) {
            DUE.is("key of P " + p, x.key(p, 10, 0), -1);
        }
        DUE.is("Q 9", x.key(101, 9, 0), -1);
        DUE.is("Q 1001", x.key(101, 1001, 0), -1);
        DUE.is("B -1", x.key(101, 10, -1), -1);
        DUE.is("B 11", x.key(101, 10, 11), -1);
        DUE.is("count", x.count(0), 0);
        DUE.is("least", x.key(101, 10, 0), 0);
        DUE.is("17 * 17", x.key(289, 1000, 10), 1);
        DUE.is("the same again", x.key(289, 1000, 10), 2);
        DUE.is("greatest", x.key(99997, 10, 0), 3);
        DUE.is("a fifth", x.key(101, 10, 0), -1);
        DUE.is("count", x.count(0), 4);
    }

    private static void promise8() {
        DUE.topic("promise 8");
        SealedSums x = new SealedSums(5);
        DUE.is("none there", x.dead(0), false);
        x.key(101, 10, 0);
        DUE.is("-1", x.dead(-1), false);
        DUE.is("1", x.dead(1), false);
        DUE.is("alive", x.dead(0), true);
        DUE.is("dead", x.dead(0), false);
        DUE.is("still counted", x.count(0), 1);
        DUE.is("the next key", x.key(101, 10, 0), 1);
        DUE.is("it is alive", x.mask(1, 0, 0), 0);
    }

    private static void promise9() {
        DUE.topic("promise 9");
        SealedSums x = new SealedSums(7);
        x.key(99991, 1000, 10);
        DUE.is("mask", x.mask(0, 6, 42), 0);
        DUE.is("mask", x.mask(0, 0, 43), 1);
        DUE.is("C", Due.sealed(x, 0, 1), 48995589);
        DUE.is("C", Due.sealed(x, 1, 1), 45895813);
        DUE.is("BOUND", Due.sealed(x, 1, 2), 76);
        DUE.is("kind", Due.sealed(x, 1, 4), 0);
        DUE.is("m 7", x.mask(0, 7, 1), -1);
        DUE.is("m -1", x.mask(0, -1, 1), -1);
        DUE.is("key 1", x.mask(1, 0, 1), -1);
        DUE.is("key -1", x.mask(-1, 0, 1), -1);
        for (int i = 2; i < 60; i++) {
            DUE.is("mask", x.mask(0, i % 7, -i), i);
            DUE.is("open", x.open(i), i % 7);
        }
        DUE.is("a 61st", x.mask(0, 0, 0), -1);
        DUE.is("count", x.count(1), 60);

        SealedSums wraps = new SealedSums(13);
        wraps.key(101, 10, 10);
        wraps.mask(0, 3, 28);
        wraps.mask(0, 3, 178);
        DUE.is("C below 0 wraps", Due.sealed(wraps, 0, 1), 974);
        DUE.is("C above X wraps", Due.sealed(wraps, 1, 1), 6);
        DUE.is("BOUND", Due.sealed(wraps, 1, 2), 142);
        wraps.dead(0);
        DUE.is("dead", wraps.mask(0, 3, 28), -1);
        DUE.is("count", wraps.count(1), 2);
    }

    private static void promise10() {
        DUE.topic("promise 10");
        SealedSums x = new SealedSums(7);
        x.key(99991, 1000, 10);
        x.key(99991, 1000, 10);
        x.mask(0, 6, 42);
        x.mask(0, 0, 43);
        x.mask(1, 0, 43);
        DUE.is("sum", x.work(0, 0, 1), 3);
        DUE.is("less", x.work(1, 1, 0), 4);
        DUE.is("product", x.work(2, 0, 1), 5);
        long modulus = 99991000L;
        DUE.is("C", Due.sealed(x, 3, 1), (48995589L + 45895813L) % modulus);
        DUE.is("C", Due.sealed(x, 4, 1), 45895813L - 48995589L + modulus);
        DUE.is("C", Due.sealed(x, 5, 1), 48995589L * 45895813L % modulus);
        DUE.is("BOUND", Due.sealed(x, 3, 2), 152);
        DUE.is("BOUND", Due.sealed(x, 4, 2), 152);
        DUE.is("BOUND", Due.sealed(x, 5, 2), 5776);
        DUE.is("a sum beyond X", x.work(0, 3, 3), 6);
        DUE.is("C", Due.sealed(x, 6, 1), (48995589L + 45895813L) * 2 % modulus);
        x.work(2, 5, 5);
        DUE.is("BOUND above a million", Due.sealed(x, 7, 2), 1000000);
        x.work(0, 7, 7);
        DUE.is("BOUND above a million", Due.sealed(x, 8, 2), 1000000);
        x.work(2, 7, 7);
        DUE.is("BOUND above a million", Due.sealed(x, 9, 2), 1000000);
        for (int kind = 0; kind < 3; kind++) {
            DUE.is("kind", Due.sealed(x, 3 + kind, 4), kind + 1);
        }
        DUE.is("kind 3", x.work(3, 0, 1), -1);
        DUE.is("kind -1", x.work(-1, 0, 1), -1);
        DUE.is("no such one", x.work(0, 10, 0), -1);
        DUE.is("no such one", x.work(0, 0, 10), -1);
        DUE.is("no such one", x.work(0, -1, 0), -1);
        DUE.is("no such one", x.work(0, 0, LEAST), -1);
        DUE.is("of two keys", x.work(0, 0, 2), -1);
        x.dead(1);
        DUE.is("a dead key", x.work(0, 2, 2), -1);
        DUE.is("count", x.count(1), 10);
        for (int i = 10; i < 60; i++) {
            x.work(0, 0, 1);
        }
        DUE.is("a 61st", x.work(0, 0, 1), -1);
        DUE.is("count", x.count(1), 60);
    }

    private static void promise11() {
        DUE.topic("promise 11");
        SealedSums x = new SealedSums(7);
        x.key(99991, 1000, 10);
        x.mask(0, 6, 42);
        DUE.is("plus 6", x.plain(3, 0, 6), 1);
        DUE.is("C", Due.sealed(x, 1, 1), 48995595);
        DUE.is("BOUND", Due.sealed(x, 1, 2), 82);
        DUE.is("plus 0", x.plain(3, 0, 0), 2);
        DUE.is("BOUND", Due.sealed(x, 2, 2), 76);
        DUE.is("times -7", x.plain(4, 0, -7), 3);
        DUE.is("C", Due.sealed(x, 3, 1), Math.floorMod(-7 * 48995589L, 99991000L));
        DUE.is("BOUND", Due.sealed(x, 3, 2), 532);
        DUE.is("times 7", x.plain(4, 0, 7), 4);
        DUE.is("times 0", x.plain(4, 0, 0), 5);
        DUE.is("C", Due.sealed(x, 5, 1), 0);
        DUE.is("BOUND", Due.sealed(x, 5, 2), 0);
        DUE.is("kinds", Due.sealed(x, 1, 4), 4);
        DUE.is("kinds", Due.sealed(x, 3, 4), 5);
        DUE.is("plus 7", x.plain(3, 0, 7), -1);
        DUE.is("plus -1", x.plain(3, 0, -1), -1);
        DUE.is("times 8", x.plain(4, 0, 8), -1);
        DUE.is("times -8", x.plain(4, 0, -8), -1);
        DUE.is("times the least int", x.plain(4, 0, LEAST), -1);
        DUE.is("kind 2", x.plain(2, 0, 1), -1);
        DUE.is("kind 5", x.plain(5, 0, 1), -1);
        DUE.is("no such one", x.plain(3, 6, 1), -1);
        for (int i = 6; i < 60; i++) {
            DUE.is("plus", x.plain(3, i - 1, 1), i);
        }
        DUE.is("a 61st", x.plain(3, 0, 1), -1);
        SealedSums dead = new SealedSums(7);
        dead.key(101, 10, 0);
        dead.mask(0, 1, 1);
        dead.dead(0);
        DUE.is("a dead key", dead.plain(3, 0, 1), -1);
        DUE.is("count", dead.count(1), 1);
    }

    private static void promise12() {
        DUE.topic("promise 12");
        SealedSums x = new SealedSums(5);
        x.key(1009, 100, 1);
        x.key(101, 10, 0);
        x.mask(0, 4, 1);
        x.plain(3, 0, 3);
        DUE.is("anew", x.anew(1, 1, 9), 2);
        DUE.is("key", Due.sealed(x, 2, 0), 1);
        DUE.is("kind", Due.sealed(x, 2, 4), 6);
        DUE.is("BOUND", Due.sealed(x, 2, 2), 4);
        DUE.is("open", x.open(2), 2);
        DUE.is("as masked", x.mask(1, 2, 9), 3);
        DUE.is("the same C", Due.sealed(x, 2, 1), Due.sealed(x, 3, 1));
        DUE.is("its own key", x.anew(1, 0, 9), 4);
        DUE.is("no such one", x.anew(5, 0, 9), -1);
        DUE.is("no such key", x.anew(0, 2, 9), -1);
        DUE.is("no such key", x.anew(0, -1, 9), -1);
        x.work(2, 0, 0);
        x.work(2, 5, 5);
        DUE.is("drowned", x.anew(6, 1, 9), -2);
        DUE.is("no such key of a drowned one", x.anew(6, 2, 9), -1);
        x.dead(1);
        DUE.is("to a dead key", x.anew(0, 1, 9), -1);
        DUE.is("of a dead key", x.anew(2, 0, 9), -1);
        DUE.is("count", x.count(1), 7);
        while (x.count(1) < 60) {
            x.mask(0, 0, 0);
        }
        DUE.is("a 61st", x.anew(0, 0, 9), -1);
        DUE.is("a 61st of a drowned one", x.anew(6, 0, 9), -1);
    }

    private static void promise13() {
        DUE.topic("promise 13");
        SealedSums x = new SealedSums(2);
        DUE.is("none", Due.sealed(x, 0, 0), Due.NO_SUCH);
        x.key(101, 10, 0);
        x.key(103, 10, 0);
        x.mask(1, 1, 5);
        DUE.is("key", Due.sealed(x, 0, 0), 1);
        DUE.is("drowned", Due.sealed(x, 0, 3), 0);
        DUE.is("-1", Due.sealed(x, -1, 0), Due.NO_SUCH);
        DUE.is("1", Due.sealed(x, 1, 0), Due.NO_SUCH);
        DUE.is("what 5", Due.sealed(x, 0, 5), Due.NO_WHAT);
        DUE.is("what -1", Due.sealed(x, 0, -1), Due.NO_WHAT);
        DUE.is("both", Due.sealed(x, 1, 5), Due.NO_SUCH);
        x.dead(1);
        DUE.is("of a dead key", Due.sealed(x, 0, 2), 1);
    }

    /** DROWNED at the edge: twice the BOUND is P - 1, and P + 1. */
    private static void promise14() {
        DUE.topic("promise 14");
        SealedSums x = new SealedSums(13);
        x.key(101, 10, 0);
        DUE.is("none", x.noise(0), -1000000);
        x.mask(0, 12, 1);
        for (int i = 0; i < 3; i++) {
            x.work(0, 0, i);
        }
        x.plain(3, 3, 2);
        x.plain(3, 3, 3);
        DUE.is("bound 50", Due.sealed(x, 4, 2), 50);
        DUE.is("bound 51", Due.sealed(x, 5, 2), 51);
        DUE.is("not drowned", Due.sealed(x, 4, 3), 0);
        DUE.is("drowned", Due.sealed(x, 5, 3), 1);
        DUE.is("noise", x.noise(4), 50);
        DUE.is("noise", x.noise(5), -50);
        x.plain(4, 4, -1);
        DUE.is("noise", x.noise(6), -50);
        DUE.is("open", x.open(6), 2);
        DUE.is("open", x.open(5), -2);
        DUE.is("-1", x.noise(-1), -1000000);
        DUE.is("7", x.noise(7), -1000000);
        x.dead(0);
        DUE.is("of a dead key", x.noise(4), 50);
    }

    private static void promise15() {
        DUE.topic("promise 15");
        SealedSums x = new SealedSums(5);
        DUE.is("none", x.open(0), -1);
        x.key(101, 10, 0);
        x.mask(0, 3, 1);
        x.work(2, 0, 0);
        x.work(2, 1, 1);
        DUE.is("open", x.open(1), 4);
        DUE.is("drowned", x.open(2), -2);
        DUE.is("3", x.open(3), -1);
        DUE.is("least", x.open(LEAST), -1);
        x.dead(0);
        DUE.is("dead", x.open(1), -3);
        DUE.is("dead and drowned", x.open(2), -3);
    }

    private static void promise16() {
        DUE.topic("promise 16");
        SealedSums x = new SealedSums(5);
        DUE.is("at first", x.count(4), 0);
        DUE.is("10000", x.budget(10000), true);
        DUE.is("10001", x.budget(10001), false);
        DUE.is("-1", x.budget(-1), false);
        DUE.is("count", x.count(4), 10000);
        DUE.is("0", x.budget(0), true);
        DUE.is("count", x.count(4), 0);
    }

    private static void promise17() {
        DUE.topic("promise 17");
        SealedSums x = new SealedSums(7);
        x.key(101, 10, 0);
        x.key(103, 10, 0);
        x.mask(0, 1, 1);
        DUE.is("no budget", x.opening(0, 5, 7), -4);
        int[] takes = {60, 30, 20, 15, 12, 10};
        for (int a = 0; a < 6; a++) {
            x.budget(takes[a] - 1);
            DUE.is("one too few", x.opening(0, a, 7), -4);
            DUE.is("nothing taken", x.count(4), takes[a] - 1);
            x.budget(takes[a]);
            int added = x.lot(7, 2, 2 * a + 1) - a;
            DUE.is("just enough", x.opening(0, a, 7), Math.floorMod(1 + added, 7));
            DUE.is("all taken", x.count(4), 0);
        }
        x.plain(3, 0, 6);
        DUE.is("opens to 0, no budget", x.opening(1, 0, 7), -4);
        x.budget(100);
        DUE.is("opens to 0", x.opening(1, 0, 7), 0);
        DUE.is("taken", x.count(4), 40);
        DUE.is("width 6", x.opening(0, 6, 7), -1);
        DUE.is("width -1", x.opening(0, -1, 7), -1);
        DUE.is("width -2", x.opening(0, LEAST, 7), -1);
        DUE.is("no such one", x.opening(2, 0, 7), -1);
        x.mask(1, 6, 1);
        x.work(2, 2, 2);
        x.work(2, 3, 3);
        DUE.is("drowned", x.opening(4, 0, 7), -2);
        x.budget(0);
        DUE.is("drowned, and no budget", x.opening(4, 0, 7), -2);
        x.dead(1);
        DUE.is("dead and drowned", x.opening(4, 0, 7), -3);
        DUE.is("dead, width 6", x.opening(4, 6, 7), -1);
    }

    private static void promise35() {
        DUE.topic("promise 35");
        SealedSums x = new SealedSums(11);
        Due.read(x, "in a; in b; out a; out 3; out b;");
        x.key(101, 10, 0);
        x.mask(0, 1, 1);
        x.budget(77);
        x.feed(0, 0, 0, 0, 0);
        int[] want = {1, 1, 1, 20, 77, 11};
        for (int what = -40; what < 40; what++) {
            int due = what >= 0 && what < 6 ? want[what] : what == 10 ? 2 : what == 20 ? 3 : -1;
            DUE.is("count(" + what + ")", x.count(what), due);
        }
        DUE.is("least", x.count(LEAST), -1);
        DUE.is("least and 10", x.count(LEAST + 10), -1);
        DUE.is("most", x.count(MOST), -1);
    }
}
