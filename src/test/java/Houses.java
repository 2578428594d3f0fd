/** Objects that have something of everything, for the boundary tests; each call makes a new one. */
final class Houses {
    private Houses() {
    }

    /**
     * T 5. KEYS 0 and 1 alive, 2 dead. SEALED ones 0, 1 fresh under 0; 2 their product; 3 drowned under 0; 4 under 1;
     * 5 and 6 (drowned) under the dead one. PROGRAM 0 with two ins and three outs, 1 without ins, 2 without outs (its
     * second WORK drowns), all with ins given. PARTS of 0 and 2. BUDGET 100. The latest read's FAULT at 3, ten bytes on
     * the tape.
     */
    static SealedSums small() {
        SealedSums x = new SealedSums(5);
        x.key(101, 10, 0);
        x.key(1009, 100, 2);
        x.key(107, 10, 1);
        x.mask(0, 3, 7);
        x.mask(0, 4, 9);
        x.work(2, 0, 1);
        x.work(2, 2, 1);
        x.mask(1, 2, 5);
        x.mask(2, 1, 1);
        x.work(2, 5, 5);
        x.parts(0, 5, 3, 77);
        x.parts(2, 2, 1, 5);
        x.dead(2);
        Due.read(x, "in a;in b;let c=a*b;out c+1;out b;out 3;");
        Due.read(x, "out 1;");
        Due.read(x, "in a;let b=a*a*a;");
        Due.read(x, "out;");
        x.given(0, 0);
        x.given(1, 1);
        x.budget(100);
        Due.feed(x, "in z;out 2");
        return x;
    }

    /** As small, with one KEY more and 60 SEALED ones, all new ones 1 under KEY 0. */
    static SealedSums full() {
        SealedSums x = small();
        x.key(9973, 10, 0);
        for (int i = 7; i < 60; i++) {
            x.mask(0, 1, i);
        }
        return x;
    }

    /** As small, with a fourth PROGRAM. */
    static SealedSums fourPrograms() {
        SealedSums x = small();
        x.back(10);
        Due.read(x, "in a;out a;");
        Due.feed(x, "in z;out 2");
        return x;
    }

    /** As small, with 2,000 bytes on the tape, which are a text. */
    static SealedSums fullTape() {
        SealedSums x = small();
        x.back(10);
        Due.feed(x, "in z;out z+2;" + " ".repeat(1981) + "out 1;");
        return x;
    }

    /** A seed whose FRESH has that r and that e under a KEY of that Q and B. */
    static int seedOf(int q, int r, int b, int e) {
        for (int seed = 0; seed < 1000000; seed++) {
            if (Model.draw(seed, 0, q) == r && Model.draw(seed, 1, 2 * b + 1) - b == e) {
                return seed;
            }
        }
        throw new IllegalStateException("no seed has r " + r + " and e " + e);
    }
}
