/** Promises 28 to 34: checks, parts, evenness. */
public final class PartPromisesTest {
    private static final Due DUE = new Due();
    private static final int LEAST = Integer.MIN_VALUE;

    public static void main(String[] args) {
        promise28();
        promise29();
        promise30();
        promise31();
        promise32();
        promise33();
        promise34();
        DUE.end();
    }

    private static void promise28() {
        DUE.topic("promise 28");
        SealedSums x = new SealedSums(5);
        for (int n = 1; n <= 11; n++) {
            for (int w = 0; w <= n; w++) {
                for (int r = 0; r <= n; r++) {
                    int all = 0;
                    int right = 0;
                    for (int set = 0; set < 1 << n; set++) {
                        all += Integer.bitCount(set) == r ? 1 : 0;
                        right += Integer.bitCount(set) == r && set >> (n - w) == 0 ? 1 : 0;
                    }
                    DUE.is("all", x.checks(n, w, r, 0), all);
                    DUE.is("right", x.checks(n, w, r, 1), right);
                }
            }
        }
        DUE.is("20 over 10", x.checks(20, 1, 10, 0), 184756);
        DUE.is("19 over 10", x.checks(20, 1, 10, 1), 92378);
        DUE.is("n 0", x.checks(0, 0, 0, 0), -1);
        DUE.is("n 21", x.checks(21, 0, 0, 0), -1);
        DUE.is("w -1", x.checks(5, -1, 0, 0), -1);
        DUE.is("w 6", x.checks(5, 6, 0, 0), -1);
        DUE.is("r -1", x.checks(5, 0, -1, 0), -1);
        DUE.is("r 6", x.checks(5, 0, 6, 0), -1);
        DUE.is("what 2", x.checks(5, 0, 0, 2), -1);
        DUE.is("what -1", x.checks(5, 0, 0, -1), -1);
    }

    private static void promise29() {
        DUE.topic("promise 29");
        SealedSums x = new SealedSums(5);
        DUE.is("no key", x.parts(0, 3, 2, 7), false);
        x.key(9973, 10, 0);
        DUE.is("n 1", x.parts(0, 1, 1, 7), false);
        DUE.is("n 7", x.parts(0, 7, 2, 7), false);
        DUE.is("k 0", x.parts(0, 3, 0, 7), false);
        DUE.is("k 4", x.parts(0, 3, 4, 7), false);
        DUE.is("key -1", x.parts(-1, 3, 2, 7), false);
        DUE.is("no parts", x.who(0), -1);
        DUE.is("parts", x.parts(0, 6, 6, 7), true);
        DUE.is("in their place", x.parts(0, 3, 3, 7), true);
        // LOT 100003 of the seed 7: 85606 (which 1), 98555 (which 2).
        DUE.is("part 1", x.part(0, 1), (9973 + 85606 + 98555) % 100003);
        DUE.is("part 2", x.part(0, 2), (9973 + 85606 * 2 + 98555 * 4) % 100003);
        DUE.is("part 3", x.part(0, 3), (9973 + 85606 * 3 + 98555 * 9) % 100003);
        DUE.is("no fourth", x.part(0, 4), -1);
        x.dead(0);
        DUE.is("a dead key", x.parts(0, 2, 1, 7), true);
        DUE.is("a failed one changes nothing", x.parts(0, 2, 3, 7), false);
        DUE.is("k 1: P itself", x.part(0, 2), 9973);
    }

    private static void promise30() {
        DUE.topic("promise 30");
        SealedSums x = new SealedSums(5);
        x.key(9973, 10, 0);
        DUE.is("no parts", x.part(0, 1), -1);
        x.parts(0, 2, 1, 7);
        DUE.is("0", x.part(0, 0), -1);
        DUE.is("1", x.part(0, 1), 9973);
        DUE.is("2", x.part(0, 2), 9973);
        DUE.is("3", x.part(0, 3), -1);
        DUE.is("least", x.part(0, LEAST), -1);
        DUE.is("no key", x.part(1, 1), -1);
    }

    private static void promise31() {
        DUE.topic("promise 31");
        SealedSums x = new SealedSums(5);
        x.key(9973, 10, 0);
        DUE.is("no parts", x.spoil(0, 1, 5), false);
        x.parts(0, 2, 1, 7);
        DUE.is("0", x.spoil(0, 1, 0), true);
        DUE.is("part", x.part(0, 1), 0);
        DUE.is("100002", x.spoil(0, 1, 100002), true);
        DUE.is("100003", x.spoil(0, 1, 100003), false);
        DUE.is("-1", x.spoil(0, 1, -1), false);
        DUE.is("part", x.part(0, 1), 100002);
        DUE.is("part 0", x.spoil(0, 0, 5), false);
        DUE.is("part 3", x.spoil(0, 3, 5), false);
        DUE.is("no key", x.spoil(1, 1, 5), false);
    }

    private static void promise32() {
        DUE.topic("promise 32");
        SealedSums x = new SealedSums(5);
        x.key(99991, 10, 0);
        DUE.is("no parts", x.joined(0, 1), -1);
        for (int k = 1; k <= 6; k++) {
            x.parts(0, 6, k, 100 + k);
            for (int set = 0; set < 64; set++) {
                DUE.is("joined", x.joined(0, set), Integer.bitCount(set) < k ? -2 : 99991);
            }
        }
        DUE.is("64", x.joined(0, 64), -1);
        DUE.is("-1", x.joined(0, -1), -1);
        DUE.is("no key", x.joined(1, 1), -1);
        x.parts(0, 3, 2, 9);
        x.spoil(0, 3, 5);
        DUE.is("the first two alone", x.joined(0, 7), 99991);
        DUE.is("a part that is not there", x.joined(0, 8), -1);
        // Through 1 and 3: at 0 it is y1 - (y3 - y1) / 2.
        x.spoil(0, 1, 10);
        x.spoil(0, 3, 4);
        DUE.is("1 and 3", x.joined(0, 5), 13);
        x.spoil(0, 3, 3);
        DUE.is("1 and 3, a half", 2 * (x.joined(0, 5) - 10) % 100003, 7);
        x.dead(0);
        DUE.is("a dead key", x.joined(0, 5), x.joined(0, 5));
        DUE.is("a dead key", x.joined(0, 1), -2);
    }

    private static void promise33() {
        DUE.topic("promise 33");
        SealedSums x = new SealedSums(5);
        DUE.is("no key", x.who(0), -1);
        x.key(99991, 10, 0);
        DUE.is("no parts", x.who(0), -1);
        for (int n = 2; n <= 6; n++) {
            for (int k = 1; k <= n; k++) {
                x.parts(0, n, k, n * k);
                DUE.is("all lie on one", x.who(0), 0);
                for (int i = 1; i <= n; i++) {
                    int was = x.part(0, i);
                    x.spoil(0, i, (was + 1) % 100003);
                    DUE.is(n + ", " + k + ": part " + i, x.who(0), k == n ? 0 : k == n - 1 ? -2 : i);
                    x.spoil(0, i, was);
                }
            }
        }
        x.parts(0, 6, 2, 5);
        x.spoil(0, 2, (x.part(0, 2) + 1) % 100003);
        x.spoil(0, 5, (x.part(0, 5) + 1) % 100003);
        DUE.is("two wrong ones", x.who(0), -2);
        x.dead(0);
        DUE.is("a dead key", x.who(0), -2);
    }

    private static void promise34() {
        DUE.topic("promise 34");
        SealedSums x = new SealedSums(13);
        DUE.is("no key", x.even(0, 0, 2), -1);
        x.key(101, 10, 0);
        x.key(101, 10, 10);
        // C is 101 * r + 1 for r 0 .. 9: odd and even ones by turns.
        DUE.is("by 2", x.even(0, 1, 2), 0);
        // 101 is 2 by 3: rests 1, 0, 2, 1, 0, 2, 1, 0, 2, 1.
        DUE.is("by 3", x.even(0, 1, 3), 1);
        // 101 is 5 by 16: ten other rests, six never come.
        DUE.is("by 16", x.even(0, 1, 16), 1);
        // 101 is 1 by 10 (and X is 0): each rest comes once.
        DUE.is("by 10", x.even(0, 1, 10), 0);
        DUE.is("m 13", x.even(0, 13, 2), -1);
        DUE.is("m -1", x.even(0, -1, 2), -1);
        DUE.is("w 1", x.even(0, 0, 1), -1);
        DUE.is("w 17", x.even(0, 0, 17), -1);
        DUE.is("w 0", x.even(0, 0, 0), -1);
        DUE.is("key -1", x.even(-1, 0, 2), -1);
        for (int w = 2; w <= 16; w++) {
            int[] counts = new int[w];
            for (int r = 0; r < 10; r++) {
                for (int e = -10; e <= 10; e++) {
                    counts[Math.floorMod(101 * r + 13 * e + 12, 1010) % w]++;
                }
            }
            int most = counts[0];
            int least = counts[0];
            for (int count : counts) {
                most = Math.max(most, count);
                least = Math.min(least, count);
            }
            DUE.is("with noise, by " + w, x.even(1, 12, w), most - least);
        }
        x.dead(0);
        DUE.is("a dead key", x.even(0, 1, 3), 1);
    }
}
