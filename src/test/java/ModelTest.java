import java.util.Random;

/** Runs of random calls, each answer held against the plain model of the document. */
public final class ModelTest {
    private static final int[] EDGES = {
        Integer.MIN_VALUE, Integer.MIN_VALUE + 1, -1000001, -101, -43, -31, -30, -14, -13, -10, -3, -2, -1, 0, 1, 2,
        3, 4, 5, 6, 7, 10, 11, 12, 13, 14, 16, 17, 20, 21, 23, 24, 31, 32, 39, 40, 59, 60, 61, 63, 64, 100, 101, 4095,
        4096, 9999, 10000, 10001, 99999, 100000, 100002, 100003, 999999, 1000000, 1000001, Integer.MAX_VALUE};
    private static final int[] PRIMES = {101, 103, 107, 109, 113, 127, 289, 997, 9973, 99989, 99991, 323, 8051};

    private final Random random;
    private final Due due;
    private final SealedSums sums;
    private final Model model;

    private ModelTest(long seed, Due due) {
        this.due = due;
        random = new Random(seed);
        int t = random.nextInt(20) == 0 ? edge() : 2 + random.nextInt(12);
        sums = new SealedSums(t);
        model = new Model(t);
        due.topic("seed " + seed + ", T " + t);
    }

    private int edge() {
        return random.nextInt(6) == 0 ? random.nextInt() : EDGES[random.nextInt(EDGES.length)];
    }

    /** Mostly within 0 .. size - 1. */
    private int about(int size) {
        int kind = random.nextInt(16);
        return kind == 0 ? edge() : kind == 1 ? size : random.nextInt(Math.max(1, size));
    }

    private int between(int low, int high) {
        return low + about(high - low + 1);
    }

    private int anyKey() {
        return about(model.keys.size());
    }

    private int anySealed() {
        int size = model.sealed.size();
        return random.nextInt(3) == 0 ? about(size) : size - 1 - about(Math.min(size, 6));
    }

    private int anyProgram() {
        return about(model.programs.size());
    }

    private int anyLaying(int program) {
        int works = Math.max(0, model.works(program));
        int laying = random.nextInt(1 << Math.min(12, works));
        laying &= random.nextBoolean() ? random.nextInt(4096) : 4095;
        return random.nextInt(10) == 0 ? 1 << Math.min(30, works) : random.nextInt(12) == 0 ? edge() : laying;
    }

    private void feedAndRead() {
        String text = new RandomText(random, model.t).next();
        int whole = (text.length() + 19) / 20;
        for (int i = 0; i < whole; i++) {
            int[] words = new int[5];
            for (int j = 0; j < 20; j++) {
                words[j / 4] = words[j / 4] << 8 | (20 * i + j < text.length() ? text.charAt(20 * i + j) & 255 : ' ');
            }
            due.is("feed", sums.feed(words[0], words[1], words[2], words[3], words[4]),
                model.feed(words[0], words[1], words[2], words[3], words[4]));
        }
        int spare = 20 * whole - text.length();
        due.is("back(" + spare + ")", sums.back(spare), model.back(spare));
        due.is("read() of " + model.tape, sums.read(), model.read());
        due.is("place() of " + text, sums.place(), model.place);
        lookAtProgram(model.programs.size() - 1);
    }

    private void lookAtProgram(int program) {
        for (int what = 0; what < 30; what++) {
            due.is("count(" + what + ")", sums.count(what), model.count(what));
        }
        due.is("works", sums.works(program), model.works(program));
        for (int k = 0; k < 41; k++) {
            for (int what = 0; what < 3; what++) {
                due.is("step(" + k + ", " + what + ")", sums.step(program, k, what), model.step(program, k, what));
            }
        }
        for (int k = 0; k < 5; k++) {
            due.is("outs(" + k + ")", sums.outs(program, k), model.outs(program, k));
        }
    }

    private void lookAtSealed() {
        int last = model.sealed.size();
        for (int a = Math.max(-1, last - 5); a <= last; a++) {
            for (int what = -1; what < 6; what++) {
                due.is("sealed(" + a + ", " + what + ")", Due.sealed(sums, a, what), model.sealed(a, what));
            }
            due.is("noise(" + a + ")", sums.noise(a), model.noise(a));
            due.is("open(" + a + ")", sums.open(a), model.open(a));
        }
    }

    private void call(int kind) {
        int k = anyKey();
        int a = anySealed();
        int p = anyProgram();
        int seed = random.nextBoolean() ? random.nextInt() : edge();
        switch (kind) {
            case 0: {
                int by = random.nextInt(40) == 0 ? edge() : PRIMES[random.nextInt(PRIMES.length)];
                int q = between(10, 1000);
                int b = random.nextInt(2) * between(0, 10);
                due.is("key(" + by + ", " + q + ", " + b + ")", sums.key(by, q, b), model.key(by, q, b));
                break;
            }
            case 1:
                if (random.nextInt(12) == 0) {
                    due.is("dead(" + k + ")", sums.dead(k), model.dead(k));
                }
                break;
            case 2: {
                int m = about(model.t);
                due.is("mask(" + k + ", " + m + ", " + seed + ")", sums.mask(k, m, seed), model.mask(k, m, seed));
                break;
            }
            case 3: {
                int sort = about(3);
                int b = anySealed();
                due.is("work(" + sort + ", " + a + ", " + b + ")", sums.work(sort, a, b), model.work(sort, a, b));
                break;
            }
            case 4: {
                int sort = between(3, 4);
                int by = between(random.nextBoolean() ? 0 : -model.t, model.t);
                due.is("plain(" + sort + ", " + a + ", " + by + ")", sums.plain(sort, a, by), model.plain(sort, a, by));
                break;
            }
            case 5:
                due.is("anew(" + a + ", " + k + ", " + seed + ")", sums.anew(a, k, seed), model.anew(a, k, seed));
                break;
            case 6: {
                int which = edge();
                int n = between(1, 1000000);
                due.is("lot(" + seed + ", " + which + ", " + n + ")", sums.lot(seed, which, n), model.lot(seed, which, n));
                break;
            }
            case 7: {
                int v = about(random.nextBoolean() ? 100 : 10001);
                due.is("budget(" + v + ")", sums.budget(v), model.budget(v));
                break;
            }
            case 8: {
                int width = about(6);
                due.is("opening(" + a + ", " + width + ", " + seed + ")", sums.opening(a, width, seed),
                    model.opening(a, width, seed));
                due.is("count(4)", sums.count(4), model.count(4));
                break;
            }
            default:
                callOnPrograms(kind, k, a, p, seed);
                break;
        }
    }

    private void callOnPrograms(int kind, int k, int a, int p, int seed) {
        int laying = anyLaying(p);
        switch (kind) {
            case 9:
                if (random.nextInt(3) == 0) {
                    feedAndRead();
                }
                break;
            case 10:
                due.is("cost(" + p + ", " + laying + ")", sums.cost(p, laying), model.cost(p, laying));
                break;
            case 11:
                due.is("holds(" + p + ", " + k + ", " + laying + ")", sums.holds(p, k, laying), model.holds(p, k, laying));
                break;
            case 12:
                if (random.nextInt(4) == 0) {
                    due.is("best(" + p + ", " + k + ")", sums.best(p, k), model.best(p, k));
                }
                break;
            case 13: {
                int in = about(6);
                due.is("given(" + in + ", " + a + ")", sums.given(in, a), model.given(in, a));
                break;
            }
            case 14:
                due.is("run(" + p + ", " + laying + ", " + seed + ")", sums.run(p, laying, seed), model.run(p, laying, seed));
                break;
            case 15: {
                int out = about(Math.max(1, model.count(20 + p)));
                int v = about((int) Math.pow(model.t, Math.max(0, model.count(10 + p))));
                due.is("openly(" + p + ", " + out + ", " + v + ")", sums.openly(p, out, v), model.openly(p, out, v));
                break;
            }
            case 16: {
                int q = anyProgram();
                if (model.t < 6 && random.nextInt(10) == 0 || model.count(10 + p) < 3) {
                    due.is("differ(" + p + ", " + q + ")", sums.differ(p, q), model.differ(p, q));
                }
                break;
            }
            default:
                callOnParts(kind, k, seed);
                break;
        }
    }

    private void callOnParts(int kind, int k, int seed) {
        int i = between(1, 6);
        switch (kind) {
            case 17: {
                int n = between(1, 20);
                int w = about(n + 1);
                int r = about(n + 1);
                int what = about(2);
                due.is("checks(" + n + ", " + w + ", " + r + ", " + what + ")", sums.checks(n, w, r, what),
                    model.checks(n, w, r, what));
                break;
            }
            case 18: {
                int n = between(2, 6);
                int needed = between(1, Math.max(1, n / (1 + random.nextInt(2))));
                due.is("parts(" + k + ", " + n + ", " + needed + ", " + seed + ")", sums.parts(k, n, needed, seed),
                    model.parts(k, n, needed, seed));
                break;
            }
            case 19:
                due.is("part(" + k + ", " + i + ")", sums.part(k, i), model.part(k, i));
                break;
            case 20: {
                int v = random.nextInt(3) == 0 ? about(100003) : model.part(k, about(6));
                if (random.nextInt(2) == 0) {
                    due.is("spoil(" + k + ", " + i + ", " + v + ")", sums.spoil(k, i, v), model.spoil(k, i, v));
                }
                break;
            }
            case 21: {
                int set = about(64);
                due.is("joined(" + k + ", " + set + ")", sums.joined(k, set), model.joined(k, set));
                break;
            }
            case 22:
                due.is("who(" + k + ")", sums.who(k), model.who(k));
                break;
            case 23: {
                int m = about(model.t);
                int w = between(2, 16);
                due.is("even(" + k + ", " + m + ", " + w + ")", sums.even(k, m, w), model.even(k, m, w));
                break;
            }
            default: {
                int what = between(0, 24);
                due.is("count(" + what + ")", sums.count(what), model.count(what));
                int n = random.nextInt(4) == 0 ? edge() : 0;
                due.is("back(" + n + ")", sums.back(n), model.back(n));
                break;
            }
        }
    }

    private void run(int calls) {
        for (int i = random.nextInt(4); i > 0; i--) {
            call(0);
            call(2);
            call(2);
            feedAndRead();
        }
        for (int i = 0; i < calls; i++) {
            call(random.nextInt(25));
            if (random.nextInt(8) == 0) {
                lookAtSealed();
            }
        }
        lookAtSealed();
        for (int i = 0; i < 4; i++) {
            lookAtProgram(i);
        }
    }

    public static void main(String[] args) {
        Due due = new Due();
        int rounds = args.length > 0 ? Integer.parseInt(args[0]) : 400;
        int from = args.length > 1 ? Integer.parseInt(args[1]) : 0;
        for (int seed = from; seed < from + rounds; seed++) {
            new ModelTest(seed, due).run(300);
        }
        due.end();
    }
}
