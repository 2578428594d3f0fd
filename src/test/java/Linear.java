import java.math.BigInteger;

/** Polynomials through points over a prime, by elimination. */
final class Linear {
    private Linear() {
    }

    /** The coefficients of the one of degree below k through all points (the free ones 0); null if there is none. */
    static int[] polynomial(int[] xs, int[] ys, int k, int prime) {
        long[][] rows = new long[xs.length][k + 1];
        for (int i = 0; i < xs.length; i++) {
            long power = 1;
            for (int j = 0; j < k; j++) {
                rows[i][j] = power;
                power = power * xs[i] % prime;
            }
            rows[i][k] = Math.floorMod(ys[i], prime);
        }
        int done = 0;
        for (int j = 0; j < k && done < rows.length; j++) {
            int pivot = done;
            while (pivot < rows.length && rows[pivot][j] == 0) {
                pivot++;
            }
            if (pivot == rows.length) {
                continue;
            }
            long[] swap = rows[pivot];
            rows[pivot] = rows[done];
            rows[done] = swap;
            clear(rows, done, j, prime);
            done++;
        }
        for (int i = done; i < rows.length; i++) {
            if (rows[i][k] != 0) {
                return null;
            }
        }
        int[] answer = new int[k];
        for (int i = 0; i < done && i < k; i++) {
            answer[i] = (int) rows[i][k];
        }
        return answer;
    }

    private static void clear(long[][] rows, int pivot, int column, int prime) {
        long inverse = BigInteger.valueOf(rows[pivot][column]).modInverse(BigInteger.valueOf(prime)).longValue();
        for (int j = 0; j < rows[pivot].length; j++) {
            rows[pivot][j] = rows[pivot][j] * inverse % prime;
        }
        for (int i = 0; i < rows.length; i++) {
            long factor = rows[i][column];
            for (int j = 0; i != pivot && j < rows[i].length; j++) {
                rows[i][j] = Math.floorMod(rows[i][j] - factor * rows[pivot][j], (long) prime);
            }
        }
    }
}
