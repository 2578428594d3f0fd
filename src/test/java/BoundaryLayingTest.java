/** Each boundary that the document names of COST, LAYINGS, THE BEST and RUNS: promises 21 to 25. */
public final class BoundaryLayingTest {
    private static final int LEAST = Integer.MIN_VALUE;
    private static final int MOST = Integer.MAX_VALUE;
    private static final Sentences DOC = new Sentences("Terms", "Promise 21", "Promise 22", "Promise 23", "Promise 24",
        "Promise 25");

    public static void main(String[] args) {
        costs();
        layingsThatAreThere();
        refusedCosts();
        insThatDrown();
        worksThatDrown();
        aheadOfBeingMadeAnew();
        behindTheTwelfth();
        refusedHolds();
        bestIsLeastCost();
        bestIsLeastBits();
        bestOfTwelve();
        refusedBests();
        givens();
        refusedGivens();
        runsOuts();
        runsWithoutOuts();
        runsUpTo60();
        runsAnew();
        runsAnewAtTheHalf();
        runsWithDrownedOnes();
        runsSeedsWrap();
        runsIns();
        refusedRuns();
        runsNoneAheadOfDrowned();
        askingChangesNothing();
        DOC.end();
    }

    private static SealedSums of(int t, String... texts) {
        SealedSums x = new SealedSums(t);
        for (String text : texts) {
            DOC.is("read() of " + text, Due.read(x, text), 0);
        }
        return x;
    }

    private static String chain(String sign, int works) {
        return "in a;out a" + (sign + "a").repeat(works) + ";";
    }

    private static int c(SealedSums x, int a) {
        return Due.sealed(x, a, 1);
    }

    private static int bound(SealedSums x, int a) {
        return Due.sealed(x, a, 2);
    }

    private static void costs() {
        DOC.says("Terms", "COST: SUM, LESS, PLUS 1, TIMES 2, PRODUCT 10, and 25 for each ANEW.");
        String[] sums = {"a+a", "a-a", "a+1", "a*2", "a*a", "a*1", "1"};
        int[] due = {1, 1, 1, 2, 10, 0, 0};
        for (int i = 0; i < sums.length; i++) {
            SealedSums x = of(5, "in a;out " + sums[i] + ";");
            DOC.is("COST of " + sums[i], x.cost(0, 0), due[i]);
            DOC.is("made ANEW", x.cost(0, 1), due[i] == 0 ? -1 : due[i] + 25);
        }
        SealedSums x = of(5, chain("*", 40), chain("+", 40), "");
        DOC.is("40 PRODUCTS", x.cost(0, 0), 400);
        DOC.is("40 PRODUCTS, twelve made ANEW", x.cost(0, 4095), 700);
        DOC.is("40 SUMS", x.cost(1, 0), 40);
        DOC.is("an empty program", x.cost(2, 0), 0);
    }

    private static void layingsThatAreThere() {
        DOC.says("Terms", "A LAYING of a PROGRAM for a KEY: WORKS (bits) that are made ANEW at once");
        DOC.says("Promise 21", "a LAYING (bits of WORKS that are there, of the first 12)");
        for (int works = 0; works <= 14; works++) {
            SealedSums x = of(5, chain("+", works));
            x.key(9973, 10, 0);
            x.mask(0, 1, 1);
            x.given(0, 0);
            int bits = Math.min(12, works);
            String name = works + " works: ";
            DOC.is(name + "all", x.cost(0, (1 << bits) - 1), works + 25 * bits);
            DOC.is(name + "the next", x.cost(0, 1 << bits), -1);
            DOC.is(name + "the next and all", x.cost(0, (2 << bits) - 1), -1);
            DOC.is(name + "holds, all", x.holds(0, 0, (1 << bits) - 1), 1);
            DOC.is(name + "holds, the next", x.holds(0, 0, 1 << bits), -1);
            DOC.is(name + "run, the next", x.run(0, 1 << bits, 1), -1);
            DOC.is(name + "run, all", x.run(0, (1 << bits) - 1, 1), 1);
        }
    }

    private static void refusedCosts() {
        DOC.says("Promise 21", "NONE: no such ones.");
        int[] noProgram = {-1, 3, LEAST, MOST};
        for (int p : noProgram) {
            DOC.refused("program " + p, Houses::small, x -> x.cost(p, 0), -1);
        }
        int[] noLaying = {-1, 4, 8, 4096, LEAST, LEAST + 1, MOST};
        for (int laying : noLaying) {
            DOC.refused("laying " + laying, Houses::small, x -> x.cost(0, laying), -1);
        }
        DOC.is("the last that is there", Houses.small().cost(0, 3), 61);
        DOC.is("no program", new SealedSums(5).cost(0, 0), -1);
    }

    private static void insThatDrown() {
        DOC.says("Terms", "nor that of an in (if there is one)");
        // T 13 and B 3: an in has the BOUND 51, which is drowned under 101 and not under 103.
        SealedSums x = of(13, "in a;out a;", "in a;", "out 1;", "");
        x.key(101, 10, 3);
        x.key(103, 10, 3);
        DOC.is("an in that is an out", x.holds(0, 0, 0), 0);
        DOC.is("an in that is nothing", x.holds(1, 0, 0), 0);
        DOC.is("no in", x.holds(2, 0, 0), 1);
        DOC.is("an empty program", x.holds(3, 0, 0), 1);
        for (int p = 0; p < 4; p++) {
            DOC.is("under 103", x.holds(p, 1, 0), 1);
        }
        DOC.is("THE BEST with an in", x.best(0, 0), -2);
        DOC.is("THE BEST without", x.best(2, 0), 0);
        DOC.is("THE BEST under 103", x.best(0, 1), 0);
    }

    private static void worksThatDrown() {
        DOC.says("Terms", "no WORK's BOUND, as it is ahead of that, may be DROWNED (twice it is P or more)");
        // BOUNDS 12, 48, then 50, 51, 52.
        SealedSums x = of(13, "in a;out a*4+2;", "in a;out a*4+3;", "in a;out a*4+4;");
        x.key(101, 10, 0);
        x.key(103, 10, 0);
        int[][] due = {{1, 0, 0}, {1, 1, 0}};
        for (int key = 0; key < 2; key++) {
            for (int p = 0; p < 3; p++) {
                DOC.is("BOUND " + (50 + p) + " under " + (101 + 2 * key), x.holds(p, key, 0), due[key][p]);
            }
        }
        // A work that drowns in the middle is enough, if it is an out or not.
        SealedSums y = of(13, "in a;let b=a*6;out a+1;", "in a;let b=a*6*0+a;out b;");
        y.key(101, 10, 0);
        DOC.is("72 is no out", y.holds(0, 0, 0), 0);
        DOC.is("72 is used by none", y.holds(1, 0, 0), 0);
        SealedSums z = of(5, chain("*", 40));
        z.key(99997, 10, 10);
        DOC.is("far above a million", z.holds(0, 0, 0), 0);
    }

    private static void aheadOfBeingMadeAnew() {
        DOC.says("Terms", "with ins of FRESH BOUNDS no WORK's BOUND, as it is ahead of that");
        SealedSums x = of(13, "in a;out a*4+3;", "in a;out a*4+2+1;");
        x.key(101, 10, 0);
        DOC.is("made ANEW when it is drowned", x.holds(0, 0, 2), 0);
        DOC.is("made ANEW ahead of it", x.holds(0, 0, 1), 1);
        DOC.is("both", x.holds(0, 0, 3), 1);
        // 48, 50, 51: the last drowns if none ahead is made ANEW.
        int[] due = {0, 1, 1, 1, 0, 1, 1, 1};
        for (int laying = 0; laying < 8; laying++) {
            DOC.is("laying " + laying, x.holds(1, 0, laying), due[laying]);
        }
        SealedSums y = Houses.small();
        y.given(0, 3);
        DOC.is("whatever was given", y.holds(0, 0, 0), 1);
    }

    private static void behindTheTwelfth() {
        DOC.says("Promise 22", "1 if nothing drowns with that for a KEY, else 0");
        // 4, and 4 more with each work: the 12th has 52, which drowns under 101; with the first made ANEW it has 48.
        SealedSums x = of(5, chain("+", 11), chain("+", 12), chain("+", 23), chain("+", 24));
        x.key(101, 10, 0);
        DOC.is("eleven", x.holds(0, 0, 0), 1);
        DOC.is("twelve", x.holds(1, 0, 0), 0);
        DOC.is("twelve, one made ANEW", x.holds(1, 0, 1), 1);
        DOC.is("twelve, the last made ANEW", x.holds(1, 0, 2048), 0);
        DOC.is("23, the twelfth and the first", x.holds(2, 0, 2049), 1);
        DOC.is("23, the twelfth alone", x.holds(2, 0, 2048), 0);
        DOC.is("24, the twelfth and the first", x.holds(3, 0, 2049), 0);
        DOC.is("24, all that can be", x.holds(3, 0, 4095), 0);
        DOC.is("23, all that can be", x.holds(2, 0, 4095), 1);
    }

    private static void refusedHolds() {
        DOC.says("Promise 22", "NONE: no such ones.");
        int[] none = {-1, 3, LEAST, MOST};
        for (int one : none) {
            DOC.refused("program " + one, Houses::small, x -> x.holds(one, 0, 0), -1);
            DOC.refused("key " + one, Houses::small, x -> x.holds(0, one, 0), -1);
        }
        int[] noLaying = {-1, 4, 4096, LEAST, MOST};
        for (int laying : noLaying) {
            DOC.refused("laying " + laying, Houses::small, x -> x.holds(0, 0, laying), -1);
        }
        DOC.is("a dead key is one", Houses.small().holds(0, 2, 3) >= 0, true);
        DOC.is("no program, no key", new SealedSums(5).holds(0, 0, 0), -1);
    }

    private static void bestIsLeastCost() {
        DOC.says("Terms", "THE BEST (12 WORKS at most): the least COST");
        // 16, 16, their sum 32, times 4 would drown: one made ANEW (bit 2) costs less than two (bits 0 and 1).
        SealedSums x = of(5, "in a;let b=a*a;let c=a*a;let d=b+c;out d*a;", "in a;out a*a*a;", "in a;out a+1;out a*a*a;",
            "in a;out a*a;");
        x.key(101, 10, 0);
        DOC.is("two would do as well", x.holds(0, 0, 3), 1);
        DOC.is("one is less", x.best(0, 0), 4);
        DOC.is("the one that must be", x.best(1, 0), 1);
        DOC.is("the one that must be", x.best(2, 0), 2);
        DOC.is("none must be", x.best(3, 0), 0);
    }

    private static void bestIsLeastBits() {
        DOC.says("Terms", "of these the one with the least bits");
        SealedSums x = of(5, chain("+", 11), chain("+", 12), "in a;out a*0+1;out a+1;let b=a" + "+a".repeat(11) + ";");
        x.key(101, 10, 0);
        DOC.is("eleven sums hold as they are", x.best(0, 0), 0);
        for (int bit = 0; bit < 11; bit++) {
            DOC.is("each but the last would do", x.holds(1, 0, 1 << bit), 1);
        }
        DOC.is("the least of them", x.best(1, 0), 1);
        DOC.is("a work beside them", x.best(2, 0), 0);
        SealedSums y = of(13, "in a;out a*4+2+1;", "in a;out 1+a;let b=a*4+2+1;");
        y.key(101, 10, 0);
        DOC.is("1 and 2 would do", y.best(0, 0), 1);
        DOC.is("2 and 4 would do, 1 would not", y.best(1, 0), 2);
    }

    private static void bestOfTwelve() {
        DOC.says("Terms", "THE BEST (12 WORKS at most)");
        SealedSums x = of(5, chain("*", 12), chain("*", 13), chain("*", 11), "in a;");
        x.key(101, 10, 0);
        DOC.is("all but the last", x.best(0, 0), 2047);
        DOC.is("13 works", x.best(1, 0), -1);
        DOC.is("eleven", x.best(2, 0), 1023);
        DOC.is("none", x.best(3, 0), 0);
        DOC.says("Promise 23", "THE BEST's bits; -2: none; NONE: no such ones, more than 12 WORKS.");
        SealedSums y = of(13, "in a;out a*12;", "in a;out a+12;", chain("+", 13));
        y.key(101, 10, 3);
        y.key(103, 10, 3);
        DOC.is("the in drowns", y.best(0, 0), -2);
        DOC.is("the in does not, its work does", y.best(1, 1), -2);
        DOC.is("13 works come ahead of none", y.best(2, 0), -1);
    }

    private static void refusedBests() {
        DOC.says("Promise 23", "NONE: no such ones, more than 12 WORKS.");
        int[] none = {-1, 3, LEAST, MOST};
        for (int one : none) {
            DOC.refused("program " + one, Houses::small, x -> x.best(one, 0), -1);
            DOC.refused("key " + one, Houses::small, x -> x.best(0, one), -1);
        }
        DOC.is("a dead key is one", Houses.small().best(1, 2), 0);
        DOC.is("no program, no key", new SealedSums(5).best(0, 0), -1);
    }

    private static void givens() {
        DOC.says("Promise 24", "An in (0 .. 5) of RUNS is a SEALED one: true; false: no such ones.");
        SealedSums x = of(5, "in a;in b;in c;in d;in e;in f;out a;out f;");
        x.key(9973, 10, 0);
        for (int i = 0; i < 5; i++) {
            x.mask(0, i, i);
        }
        for (int in = 0; in < 6; in++) {
            DOC.is("not all are given", x.run(0, 0, 1), -1);
            DOC.is("in " + in, x.given(in, in % 5), true);
        }
        DOC.is("all are given", x.run(0, 0, 1), 5);
        DOC.is("the first in", x.open(5), 0);
        DOC.is("another in its place", x.given(5, 4), true);
        DOC.is("run", x.run(0, 0, 1), 7);
        DOC.is("the last in", x.open(8), 4);
        DOC.is("an out as an in", x.given(0, 8), true);
        DOC.is("run", x.run(0, 0, 1), 9);
        DOC.is("the first in", x.open(9), 4);
        DOC.is("the 60th", Houses.full().given(0, 59), true);
        DOC.is("a 61st", Houses.full().given(0, 60), false);
        DOC.is("a dead key's", Houses.small().given(0, 5), true);
        DOC.is("a drowned one", Houses.small().given(0, 3), true);
    }

    private static void refusedGivens() {
        DOC.says("Promise 24", "false: no such ones.");
        int[] noIn = {-1, 6, LEAST, MOST};
        for (int in : noIn) {
            DOC.denied("in " + in, Houses::small, x -> x.given(in, 2));
        }
        int[] noSealed = {-1, 7, 60, LEAST, MOST};
        for (int s : noSealed) {
            DOC.denied("sealed one " + s, Houses::small, x -> x.given(0, s));
            DOC.denied("sealed one " + s + " for an in that has none", Houses::small, x -> x.given(5, s));
        }
        DOC.denied("none is there", () -> new SealedSums(5), x -> x.given(0, 0));
        DOC.denied("neither", Houses::small, x -> x.given(-1, -1));
    }

    private static void runsOuts() {
        DOC.says("Terms", "the outs come behind the SEALED ones: as they are (C, BOUND; kind 7)");
        SealedSums x = Houses.small();
        DOC.is("the first out's number", x.run(0, 0, 1), 7);
        x.work(2, 0, 1);
        x.plain(3, 10, 1);
        DOC.is("C of a work", c(x, 7), c(x, 11));
        DOC.is("BOUND of a work", bound(x, 7), 17);
        DOC.is("C of an in", c(x, 8), c(x, 1));
        DOC.is("BOUND of an in", bound(x, 8), 4);
        DOC.is("it opens", x.open(9), 3);
        for (int a = 7; a < 10; a++) {
            DOC.is("kind", Due.sealed(x, a, 4), 7);
            DOC.is("key", Due.sealed(x, a, 0), 0);
        }
        DOC.is("run again", x.run(0, 0, 1), 12);
        DOC.is("the same C", c(x, 12), c(x, 7));
        SealedSums four = of(5, "in a;out a;out a;out a+1;out 4;");
        four.key(9973, 10, 1);
        four.mask(0, 2, 1);
        four.given(0, 0);
        DOC.is("four outs", four.run(0, 0, 1), 1);
        DOC.is("four more", four.count(1), 5);
        int[] opens = {2, 2, 3, 4};
        for (int i = 0; i < 4; i++) {
            DOC.is("out " + i, four.open(1 + i), opens[i]);
        }
    }

    private static void runsWithoutOuts() {
        DOC.says("Promise 25", "the number of the first out (without outs: how many SEALED ones there are)");
        DOC.refused("without outs", Houses::small, x -> x.run(2, 0, 1), 7);
        DOC.refused("without outs, made ANEW", Houses::small, x -> x.run(2, 1, 1), 7);
        DOC.refused("without outs, 60 are there", Houses::full, x -> x.run(2, 0, 1), 60);
        SealedSums x = of(5, "in a;");
        x.key(101, 10, 0);
        x.mask(0, 1, 1);
        x.given(0, 0);
        DOC.is("an in alone", x.run(0, 0, 1), 1);
    }

    private static SealedSums withRoomFor(int more, int outs) {
        SealedSums x = new SealedSums(5);
        x.key(9973, 10, 0);
        for (int i = 0; i < 60 - more; i++) {
            x.mask(0, i % 5, i);
        }
        x.given(0, 7);
        Due.read(x, "in a;" + "out a;".repeat(outs));
        return x;
    }

    private static void runsUpTo60() {
        DOC.says("Promise 25", "more than 60 would be there");
        for (int outs = 0; outs <= 4; outs++) {
            for (int more = 0; more <= 5; more++) {
                int room = more;
                int needs = outs;
                if (outs <= more) {
                    SealedSums x = withRoomFor(more, outs);
                    DOC.is(outs + " outs, room for " + more, x.run(0, 0, 1), 60 - more);
                    DOC.is("count", x.count(1), 60 - more + outs);
                } else {
                    DOC.refused(outs + " outs, room for " + more, () -> withRoomFor(room, needs), x -> x.run(0, 0, 1), -1);
                }
            }
        }
    }

    private static SealedSums lettingAnew(int seed) {
        SealedSums x = of(5, "in a;let b=a+1;let c=b+1;let d=c" + "+a".repeat(10) + ";let e=d+1;out a;out b;out c;out d;");
        x.key(9973, 100, 2);
        x.mask(0, 3, seed);
        x.given(0, 0);
        return x;
    }

    private static void runsAnew() {
        DOC.says("Terms", "those of a LAYING are made ANEW by SEED + 10 * the WORK's number");
        int[] seeds = {0, 5, -7, LEAST, MOST, MOST - 10, MOST - 110, LEAST + 5};
        for (int seed : seeds) {
            SealedSums x = lettingAnew(1);
            DOC.is("run", x.run(0, 1 | 2 | 2048, seed), 1);
            x.mask(0, 4, seed);
            x.mask(0, 0, seed + 10);
            x.mask(0, 0, seed + 110);
            DOC.is("an in is not made ANEW", c(x, 1), c(x, 0));
            DOC.is("WORK 0", c(x, 2), c(x, 5));
            DOC.is("WORK 1", c(x, 3), c(x, 6));
            DOC.is("WORK 11", c(x, 4), c(x, 7));
            for (int a = 2; a < 5; a++) {
                DOC.is("BOUND", bound(x, a), 14);
            }
        }
        SealedSums none = lettingAnew(1);
        none.run(0, 0, 5);
        none.plain(3, 0, 1);
        DOC.is("without a laying: C", c(none, 2), c(none, 5));
        DOC.is("without a laying: BOUND", bound(none, 4), 14 + 2 + 10 * 14);
    }

    /** An in of BOUND 48, and one more work. */
    private static SealedSums nearTheHalf(int p, int plus) {
        SealedSums x = of(13, "in a;out a+" + plus + ";");
        x.key(p, 10, 0);
        x.mask(0, 12, 1);
        x.plain(4, 0, 4);
        x.given(0, 1);
        return x;
    }

    private static void runsAnewAtTheHalf() {
        DOC.says("Terms", "(they must not be DROWNED)");
        SealedSums x = nearTheHalf(101, 2);
        DOC.is("BOUND 50 under 101", x.run(0, 1, 1), 2);
        DOC.is("it opens", x.open(2), 50 % 13);
        DOC.is("BOUND", bound(x, 2), 12);
        DOC.is("BOUND 51 under 103", nearTheHalf(103, 3).run(0, 1, 1), 2);
        DOC.says("Promise 25", "-2, and nothing happens: one to be made ANEW is DROWNED.");
        DOC.refused("BOUND 51 under 101", () -> nearTheHalf(101, 3), y -> y.run(0, 1, 1), -2);
        DOC.refused("BOUND 52 under 103", () -> nearTheHalf(103, 4), y -> y.run(0, 1, 1), -2);
        DOC.refused("the second of a laying", Houses::small, y -> y.run(2, 2, 1), -2);
        DOC.is("the first and the second", Houses.small().run(2, 3, 1), 7);
    }

    private static void runsWithDrownedOnes() {
        DOC.says("Terms", "as they are (C, BOUND; kind 7)");
        SealedSums x = nearTheHalf(101, 3);
        DOC.is("an out that is drowned", x.run(0, 0, 1), 2);
        DOC.is("its BOUND", bound(x, 2), 51);
        DOC.is("it is drowned", x.open(2), -2);
        x.given(0, 2);
        DOC.is("an in that is drowned", x.run(0, 0, 1), 3);
        DOC.is("its out's BOUND", bound(x, 3), 54);
        DOC.refused("made ANEW of a drowned in", () -> {
            SealedSums y = nearTheHalf(101, 3);
            y.run(0, 0, 1);
            y.given(0, 2);
            return y;
        }, y -> y.run(0, 1, 1), -2);
        SealedSums far = of(5, chain("*", 40));
        far.key(101, 10, 0);
        far.mask(0, 2, 1);
        far.given(0, 0);
        DOC.is("far above a million", far.run(0, 0, 1), 1);
        DOC.is("its BOUND", bound(far, 1), 1000000);
    }

    private static void runsSeedsWrap() {
        DOC.says("Terms", "OPEN ones FRESH by SEED + 1000 + the out's number (kind 7)");
        int[] seeds = {0, -1000, -1003, LEAST, MOST, MOST - 1000, MOST - 1001, MOST - 1003};
        for (int seed : seeds) {
            SealedSums x = of(5, "in a;out 0;out 4;out a;out 9999;");
            x.key(9973, 1000, 10);
            x.mask(0, 1, 1);
            x.given(0, 0);
            DOC.is("run by " + seed, x.run(0, 0, seed), 1);
            x.mask(0, 0, seed + 1000);
            x.mask(0, 4, seed + 1001);
            x.mask(0, 4, seed + 1003);
            DOC.is("out 0", c(x, 1), c(x, 5));
            DOC.is("out 1", c(x, 2), c(x, 6));
            DOC.is("out 3", c(x, 4), c(x, 7));
            DOC.is("BOUND", bound(x, 1), 54);
            DOC.is("kind", Due.sealed(x, 1, 4), 7);
            DOC.is("kind", Due.sealed(x, 4, 4), 7);
        }
    }

    private static void runsIns() {
        DOC.says("Terms", "A RUN: ins are SEALED ones of one KEY, alive");
        SealedSums x = Houses.small();
        x.given(2, 4);
        x.given(5, 5);
        DOC.is("what other ins are given does not matter", x.run(0, 0, 1), 7);
        SealedSums y = Houses.small();
        y.given(1, 0);
        DOC.is("one for both ins", y.run(0, 0, 1), 7);
        DOC.is("3 * 3 and 1 more", y.open(7), 0);
        SealedSums z = Houses.small();
        z.given(0, 4);
        z.given(1, 4);
        DOC.is("under another key", z.run(0, 0, 1), 7);
        DOC.is("its key", Due.sealed(z, 7, 0), 1);
        DOC.is("an OPEN one's key", Due.sealed(z, 9, 0), 1);
        SealedSums w = Houses.small();
        w.dead(1);
        DOC.is("another key's death does not matter", w.run(0, 0, 1), 7);
    }

    private static SealedSums given(int first, int second) {
        SealedSums x = Houses.small();
        x.given(0, first);
        x.given(1, second);
        return x;
    }

    private static SealedSums notGiven(int in) {
        SealedSums x = new SealedSums(5);
        x.key(101, 10, 0);
        x.mask(0, 3, 7);
        Due.read(x, "in a;in b;let c=a*b;out c+1;out b;out 3;");
        if (in >= 0) {
            x.given(in, 0);
        }
        return x;
    }

    private static void refusedRuns() {
        DOC.says("Promise 25", "NONE, and nothing happens: no such ones, no in, an in that was not given, of two KEYS, a dead KEY");
        int[] noProgram = {-1, 3, LEAST, MOST};
        for (int p : noProgram) {
            DOC.refused("program " + p, Houses::small, x -> x.run(p, 0, 1), -1);
        }
        int[] noLaying = {-1, 4, 4096, LEAST, MOST};
        for (int laying : noLaying) {
            DOC.refused("laying " + laying, Houses::small, x -> x.run(0, laying, 1), -1);
        }
        DOC.refused("no in", Houses::small, x -> x.run(1, 0, 1), -1);
        DOC.refused("none is given", () -> notGiven(-1), x -> x.run(0, 0, 1), -1);
        DOC.refused("the second is not given", () -> notGiven(0), x -> x.run(0, 0, 1), -1);
        DOC.refused("the first is not given", () -> notGiven(1), x -> x.run(0, 0, 1), -1);
        DOC.refused("of two keys", () -> given(0, 4), x -> x.run(0, 0, 1), -1);
        DOC.refused("of two keys", () -> given(4, 0), x -> x.run(0, 0, 1), -1);
        DOC.refused("a dead key", () -> given(5, 5), x -> x.run(0, 0, 1), -1);
        DOC.refused("of two keys, the first dead", () -> given(5, 0), x -> x.run(0, 0, 1), -1);
        DOC.refused("of two keys, the second dead", () -> given(0, 5), x -> x.run(0, 0, 1), -1);
        DOC.refused("a dead key, without outs", () -> given(5, 5), x -> x.run(2, 0, 1), -1);
        DOC.refused("more than 60", Houses::full, x -> x.run(0, 0, 1), -1);
        DOC.is("an empty program has no in", of(5, "").run(0, 0, 1), -1);
    }

    private static void runsNoneAheadOfDrowned() {
        DOC.says("Promise 25", "more than 60 would be there; -2, and nothing happens: one to be made ANEW is DROWNED");
        DOC.refused("a dead key, one drowned", () -> given(5, 5), x -> x.run(2, 2, 1), -1);
        Twins.House crowded = () -> {
            SealedSums x = withRoomFor(0, 0);
            Due.read(x, "in a;out a*a*a*a*a*a*a;");
            return x;
        };
        DOC.refused("more than 60, one drowned", crowded, x -> x.run(1, 32, 1), -1);
        DOC.refused("without outs, 60 are there, one drowned", Houses::full, x -> x.run(2, 2, 1), -2);
    }

    /** These calls ask alone: what they work out in between is no part of what a house holds. */
    private static void askingChangesNothing() {
        DOC.says("Promise 21", "COST of a PROGRAM with a LAYING");
        DOC.refused("cost", Houses::small, x -> x.cost(0, 3), 61);
        DOC.says("Promise 22", "1 if nothing drowns");
        DOC.refused("holds", Houses::small, x -> x.holds(0, 0, 3), 1);
        DOC.says("Promise 23", "THE BEST's bits");
        DOC.refused("best", Houses::small, x -> x.best(0, 0), 0);
    }
}
