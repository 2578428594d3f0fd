import java.math.BigInteger;
import java.util.ArrayList;
import java.util.List;

/** The document once more, in the slowest and plainest way, to hold the class against. */
final class Model {
    static final int P = 0, Q = 1, B = 2, DEAD = 3;

    final int t;
    StringBuilder tape = new StringBuilder();
    int place = -1;
    final List<int[]> keys = new ArrayList<>();
    final List<int[]> parts = new ArrayList<>();
    final List<int[]> sealed = new ArrayList<>();
    final List<ModelText> programs = new ArrayList<>();
    final int[] given = {-1, -1, -1, -1, -1, -1};
    int budget = 0;

    Model(int t) {
        this.t = t >= 2 && t <= 13 ? t : 2;
    }

    int feed(int a, int b, int c, int d, int e) {
        if (tape.length() > 1980) {
            return -1;
        }
        for (int word : new int[] {a, b, c, d, e}) {
            for (int i = 3; i >= 0; i--) {
                tape.append((char) (word >>> (8 * i) & 0xff));
            }
        }
        return tape.length();
    }

    int back(int n) {
        if (n < 0 || n > tape.length()) {
            return -1;
        }
        tape.setLength(tape.length() - n);
        return tape.length();
    }

    int read() {
        if (programs.size() == 4) {
            return -2;
        }
        ModelText text = new ModelText(tape.toString(), t);
        tape = new StringBuilder();
        place = text.fault == 0 ? -1 : text.place;
        if (text.fault == 0) {
            programs.add(text);
        }
        return text.fault;
    }

    int lot(int seed, int which, int n) {
        return n < 1 || n > 1000000 ? -1 : draw(seed, which, n);
    }

    static int draw(int seed, int which, int n) {
        BigInteger two32 = BigInteger.ONE.shiftLeft(32);
        BigInteger h = BigInteger.valueOf(seed).mod(two32);
        for (int it : new int[] {7, which}) {
            h = h.xor(BigInteger.valueOf(it).mod(two32));
            h = h.multiply(BigInteger.valueOf(1103515245)).add(BigInteger.valueOf(12345)).mod(two32);
            h = h.xor(h.shiftRight(15));
        }
        return h.shiftRight(1).mod(BigInteger.valueOf(n)).intValue();
    }

    int key(int p, int q, int b) {
        if (keys.size() == 4 || p < 101 || p > 99999 || p % 2 == 0 || q < 10 || q > 1000 || b < 0 || b > 10) {
            return -1;
        }
        for (int prime : new int[] {3, 5, 7, 11, 13}) {
            if (p / prime * prime == p) {
                return -1;
            }
        }
        keys.add(new int[] {p, q, b, 0});
        parts.add(null);
        return keys.size() - 1;
    }

    boolean isKey(int key) {
        return key >= 0 && key < keys.size();
    }

    boolean alive(int key) {
        return isKey(key) && keys.get(key)[DEAD] == 0;
    }

    boolean isSealed(int a) {
        return a >= 0 && a < sealed.size();
    }

    boolean dead(int key) {
        if (!alive(key)) {
            return false;
        }
        keys.get(key)[DEAD] = 1;
        return true;
    }

    static int mod(BigInteger a, long n) {
        return a.mod(BigInteger.valueOf(n)).intValue();
    }

    int[] freshOf(int key, int m, int seed, int kind) {
        int[] k = keys.get(key);
        long r = draw(seed, 0, k[Q]);
        long e = draw(seed, 1, 2 * k[B] + 1) - k[B];
        int c = mod(BigInteger.valueOf(k[P] * r + t * e + m), (long) k[P] * k[Q]);
        return new int[] {key, c, t * k[B] + t - 1, kind};
    }

    int add(int[] row) {
        sealed.add(row);
        return sealed.size() - 1;
    }

    int mask(int key, int m, int seed) {
        return sealed.size() >= 60 || !alive(key) || m < 0 || m >= t ? -1 : add(freshOf(key, m, seed, 0));
    }

    /** Kinds as step() tells them. */
    int[] worked(int kind, int[] a, long c, long bound) {
        int[] k = keys.get(a[0]);
        BigInteger x = BigInteger.valueOf(a[1]);
        BigInteger y = BigInteger.valueOf(c);
        BigInteger z = kind == 1 || kind == 4 ? x.add(y) : kind == 2 ? x.subtract(y) : x.multiply(y);
        return new int[] {a[0], mod(z, (long) k[P] * k[Q]), bound(kind, a[2], bound), kind};
    }

    static int bound(int kind, long a, long b) {
        long bound = kind == 3 ? a * b : kind == 5 ? a * Math.abs(b) : a + b;
        return bound > 1000000 ? 1000000 : (int) bound;
    }

    int work(int kind, int a, int b) {
        if (kind < 0 || kind > 2 || sealed.size() >= 60 || !isSealed(a) || !isSealed(b)) {
            return -1;
        }
        int[] other = sealed.get(b);
        int[] one = sealed.get(a);
        return one[0] != other[0] || !alive(one[0]) ? -1 : add(worked(kind + 1, one, other[1], other[2]));
    }

    int plain(int kind, int a, int k) {
        if (kind != 3 && kind != 4 || sealed.size() >= 60 || !isSealed(a) || !alive(sealed.get(a)[0])) {
            return -1;
        }
        if (k > t || k < -t || kind == 3 && (k < 0 || k == t)) {
            return -1;
        }
        return add(worked(kind + 1, sealed.get(a), k, k));
    }

    int anew(int a, int key, int seed) {
        if (sealed.size() >= 60 || !isSealed(a) || !alive(key) || !alive(sealed.get(a)[0])) {
            return -1;
        }
        return drowned(sealed.get(a)) ? -2 : add(freshOf(key, opens(sealed.get(a)), seed, 6));
    }

    boolean drowned(int[] row) {
        return 2L * row[2] >= keys.get(row[0])[P];
    }

    int noiseOf(int[] row) {
        int p = keys.get(row[0])[P];
        int rest = row[1] % p;
        return Math.abs(rest - p) < rest ? rest - p : rest;
    }

    int opens(int[] row) {
        return Math.floorMod(noiseOf(row), t);
    }

    int sealed(int a, int what) {
        if (!isSealed(a)) {
            return Due.NO_SUCH;
        }
        if (what < 0 || what > 4) {
            return Due.NO_WHAT;
        }
        int[] row = sealed.get(a);
        return what == 3 ? drowned(row) ? 1 : 0 : what == 4 ? row[3] : row[what];
    }

    int noise(int a) {
        return isSealed(a) ? noiseOf(sealed.get(a)) : -1000000;
    }

    int open(int a) {
        if (!isSealed(a)) {
            return -1;
        }
        int[] row = sealed.get(a);
        return !alive(row[0]) ? -3 : drowned(row) ? -2 : opens(row);
    }

    boolean budget(int v) {
        boolean fits = v >= 0 && v <= 10000;
        budget = fits ? v : budget;
        return fits;
    }

    int opening(int s, int a, int seed) {
        if (!isSealed(s) || a < 0 || a > 5) {
            return -1;
        }
        int opened = open(s);
        int takes = new int[] {60, 30, 20, 15, 12, 10}[a];
        if (opened < 0) {
            return opened;
        }
        if (budget < takes) {
            return -4;
        }
        budget -= takes;
        return Math.floorMod(opened + draw(seed, 2, 2 * a + 1) - a, t);
    }

    ModelText program(int program) {
        return program >= 0 && program < programs.size() ? programs.get(program) : null;
    }

    int works(int program) {
        return program(program) == null ? -1 : program(program).works.size();
    }

    int step(int program, int k, int what) {
        ModelText text = program(program);
        if (text == null || k < 0 || k >= text.works.size() || what < 0 || what > 2) {
            return -100;
        }
        return text.works.get(k)[what];
    }

    int outs(int program, int k) {
        ModelText text = program(program);
        return text == null || k < 0 || k >= text.outs.size() ? -100 : text.outs.get(k);
    }

    boolean isLaying(ModelText text, int laying) {
        if (text == null || laying < 0) {
            return false;
        }
        for (int i = 0; i < 32; i++) {
            if ((laying >>> i & 1) == 1 && (i >= 12 || i >= text.works.size())) {
                return false;
            }
        }
        return true;
    }

    int cost(int program, int laying) {
        ModelText text = program(program);
        if (!isLaying(text, laying)) {
            return -1;
        }
        int cost = 0;
        for (int i = 0; i < text.works.size(); i++) {
            int kind = text.works.get(i)[0];
            cost += kind == 3 ? 10 : kind == 5 ? 2 : 1;
            cost += i < 12 && (laying >> i & 1) == 1 ? 25 : 0;
        }
        return cost;
    }

    int holds(int program, int key, int laying) {
        ModelText text = program(program);
        return !isLaying(text, laying) || !isKey(key) ? -1 : holds(text, keys.get(key), laying) ? 1 : 0;
    }

    boolean holds(ModelText text, int[] key, int laying) {
        int fresh = t * key[B] + t - 1;
        List<Integer> bounds = new ArrayList<>();
        boolean fine = text.ins == 0 || 2 * fresh < key[P];
        for (int i = 0; i < text.works.size(); i++) {
            int[] work = text.works.get(i);
            int a = work[1] >= 0 ? bounds.get(work[1]) : fresh;
            int b = work[0] >= 4 ? work[2] : work[2] >= 0 ? bounds.get(work[2]) : fresh;
            int bound = bound(work[0], a, b);
            fine &= 2 * bound < key[P];
            bounds.add(i < 12 && (laying >> i & 1) == 1 ? fresh : bound);
        }
        return fine;
    }

    int best(int program, int key) {
        ModelText text = program(program);
        if (text == null || !isKey(key) || text.works.size() > 12) {
            return -1;
        }
        int best = -2;
        for (int laying = (1 << text.works.size()) - 1; laying >= 0; laying--) {
            if (holds(program, key, laying) == 1 && (best < 0 || cost(program, laying) <= cost(program, best))) {
                best = laying;
            }
        }
        return best;
    }

    boolean given(int in, int s) {
        boolean fits = in >= 0 && in < 6 && isSealed(s);
        if (fits) {
            given[in] = s;
        }
        return fits;
    }

    int run(int program, int laying, int seed) {
        ModelText text = program(program);
        if (!isLaying(text, laying) || text.ins == 0 || sealed.size() + text.outs.size() > 60) {
            return -1;
        }
        for (int i = 0; i < text.ins; i++) {
            if (given[i] < 0 || sealed.get(given[i])[0] != sealed.get(given[0])[0]) {
                return -1;
            }
        }
        int key = sealed.get(given[0])[0];
        if (!alive(key)) {
            return -1;
        }
        List<int[]> rows = new ArrayList<>();
        for (int i = 0; i < text.works.size(); i++) {
            int[] work = text.works.get(i);
            int[] a = work[1] >= 0 ? rows.get(work[1]) : sealed.get(given[-10 - work[1]]);
            int[] row;
            if (work[0] >= 4) {
                row = worked(work[0], a, work[2], work[2]);
            } else {
                int[] b = work[2] >= 0 ? rows.get(work[2]) : sealed.get(given[-10 - work[2]]);
                row = worked(work[0], a, b[1], b[2]);
            }
            if (i < 12 && (laying >> i & 1) == 1) {
                if (drowned(row)) {
                    return -2;
                }
                row = freshOf(key, opens(row), seed + 10 * i, 6);
            }
            rows.add(row);
        }
        int first = sealed.size();
        for (int i = 0; i < text.outs.size(); i++) {
            int out = text.outs.get(i);
            int[] row = out >= 0 ? rows.get(out).clone()
                : out > -30 ? sealed.get(given[-10 - out]).clone() : freshOf(key, -30 - out, seed + 1000 + i, 7);
            row[3] = 7;
            add(row);
        }
        return first;
    }

    int openly(int program, int out, int v) {
        ModelText text = program(program);
        if (text == null || out < 0 || out >= text.outs.size() || v < 0 || v >= Math.pow(t, text.ins)) {
            return -1;
        }
        return text.openly(v).get(out);
    }

    int differ(int one, int other) {
        ModelText a = program(one);
        ModelText b = program(other);
        if (a == null || b == null || a.ins != b.ins || a.ins > 4 || a.outs.size() != b.outs.size()) {
            return -1;
        }
        int differ = 0;
        for (int v = 0; v < Math.pow(t, a.ins); v++) {
            differ += a.openly(v).equals(b.openly(v)) ? 0 : 1;
        }
        return differ;
    }

    static int pascal(int n, int r) {
        long[] row = new long[22];
        row[0] = 1;
        for (int i = 0; i < n; i++) {
            for (int j = 21; j > 0; j--) {
                row[j] += row[j - 1];
            }
        }
        return (int) row[r];
    }

    int checks(int n, int w, int r, int what) {
        if (n < 1 || n > 20 || w < 0 || w > n || r < 0 || r > n || what < 0 || what > 1) {
            return -1;
        }
        return what == 0 ? pascal(n, r) : pascal(n - w, r);
    }

    /** A KEY's parts: k, then y of each. */
    boolean parts(int key, int n, int k, int seed) {
        if (!isKey(key) || n < 2 || n > 6 || k < 1 || k > n) {
            return false;
        }
        int[] made = new int[n + 1];
        made[0] = k;
        for (int i = 1; i <= n; i++) {
            BigInteger y = BigInteger.valueOf(keys.get(key)[P]);
            for (int j = 1; j < k; j++) {
                y = y.add(BigInteger.valueOf(draw(seed, j, 100003)).multiply(BigInteger.valueOf(i).pow(j)));
            }
            made[i] = mod(y, 100003);
        }
        parts.set(key, made);
        return true;
    }

    int[] partsOf(int key) {
        return isKey(key) ? parts.get(key) : null;
    }

    int part(int key, int i) {
        int[] made = partsOf(key);
        return made == null || i < 1 || i >= made.length ? -1 : made[i];
    }

    boolean spoil(int key, int i, int v) {
        if (part(key, i) < 0 || v < 0 || v > 100002) {
            return false;
        }
        partsOf(key)[i] = v;
        return true;
    }

    int joined(int key, int set) {
        int[] made = partsOf(key);
        if (made == null || set < 0 || set >= 1 << (made.length - 1)) {
            return -1;
        }
        List<Integer> first = new ArrayList<>();
        for (int i = 1; i < made.length && first.size() < made[0]; i++) {
            if ((set >> (i - 1) & 1) == 1) {
                first.add(i);
            }
        }
        if (first.size() < made[0]) {
            return -2;
        }
        int[] ys = new int[first.size()];
        int[] xs = new int[first.size()];
        for (int i = 0; i < xs.length; i++) {
            xs[i] = first.get(i);
            ys[i] = made[xs[i]];
        }
        return Linear.polynomial(xs, ys, made[0], 100003)[0];
    }

    boolean onOne(int[] made, int without) {
        List<Integer> left = new ArrayList<>();
        for (int i = 1; i < made.length; i++) {
            if (i != without) {
                left.add(i);
            }
        }
        int[] xs = left.stream().mapToInt(i -> i).toArray();
        int[] ys = left.stream().mapToInt(i -> made[i]).toArray();
        return Linear.polynomial(xs, ys, made[0], 100003) != null;
    }

    int who(int key) {
        int[] made = partsOf(key);
        if (made == null) {
            return -1;
        }
        if (onOne(made, 0)) {
            return 0;
        }
        for (int i = 1; i < made.length && made.length - 1 >= made[0] + 2; i++) {
            if (onOne(made, i)) {
                return i;
            }
        }
        return -2;
    }

    int even(int key, int m, int w) {
        if (!isKey(key) || m < 0 || m >= t || w < 2 || w > 16) {
            return -1;
        }
        int[] k = keys.get(key);
        int[] counts = new int[w];
        for (long r = 0; r < k[Q]; r++) {
            for (long e = -k[B]; e <= k[B]; e++) {
                counts[(int) (Math.floorMod(k[P] * r + t * e + m, (long) k[P] * k[Q]) % w)]++;
            }
        }
        int most = 0;
        int least = Integer.MAX_VALUE;
        for (int c : counts) {
            most = Math.max(most, c);
            least = Math.min(least, c);
        }
        return most - least;
    }

    int count(int what) {
        if (what >= 0 && what <= 5) {
            return new int[] {keys.size(), sealed.size(), programs.size(), tape.length(), budget, t}[what];
        }
        if (what >= 10 && what < 10 + programs.size()) {
            return programs.get(what - 10).ins;
        }
        return what >= 20 && what < 20 + programs.size() ? programs.get(what - 20).outs.size() : -1;
    }
}
