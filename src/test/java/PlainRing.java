import java.util.Arrays;
import java.util.NoSuchElementException;

/**
 * The document once more, for comparison: it holds coefficients, multiplies by hand, finds numbers by trying them all,
 * and comes from values to coefficients by Lagrange's polynomials.
 */
final class PlainRing {
    private final int[][] held = new int[Check.REGISTERS][];
    private int kind;
    private int n;
    private int t;
    private int z;
    private int[][] lagrange;

    PlainRing() {
        begin(0);
    }

    int begin(int newKind) {
        if (newKind < 0 || newKind > 3) {
            throw new IllegalArgumentException();
        }
        kind = newKind;
        n = Check.SIZES[kind];
        t = Check.MODULI[kind];
        z = 2;
        while (numberPower(z, n) != t - 1) {
            z++;
        }
        for (int r = 0; r < held.length; r++) {
            held[r] = new int[n];
        }
        lagrange = lagrangePolynomials();
        return z;
    }

    int set(int r, int i, int v) {
        int before = get(r, i);
        held[r][i] = reduced(v);
        return before;
    }

    int get(int r, int i) {
        registers(r);
        place(i);
        return held[r][i];
    }

    int setValue(int r, int i, int v) {
        int before = value(r, i);
        int[] values = values(held[r]);
        values[i] = reduced(v);
        held[r] = fromValues(values);
        return before;
    }

    int value(int r, int i) {
        registers(r);
        place(i);
        return values(held[r])[i];
    }

    int join(int to, int op, int a, int b) {
        registers(to, a, b);
        if (op < 0 || op > 3) {
            throw new IllegalArgumentException();
        }
        if (op == 3) {
            held[to] = times(held[a], inverse(held[b]));
        } else if (op == 2) {
            held[to] = times(held[a], held[b]);
        } else {
            int[] result = new int[n];
            for (int i = 0; i < n; i++) {
                result[i] = reduced(op == 0 ? held[a][i] + held[b][i] : held[a][i] - held[b][i]);
            }
            held[to] = result;
        }
        return zeros(held[to]);
    }

    int turn(int to, int a, int g) {
        registers(to, a);
        if ((g & 1) == 0) {
            throw new IllegalArgumentException();
        }
        held[to] = turned(held[a], g);
        return values(held[to])[0];
    }

    int power(int to, int a, int exponent) {
        registers(to, a);
        int[] square = exponent < 0 ? inverse(held[a]) : held[a];
        int[] result = one();
        for (long left = Math.abs((long) exponent); left > 0; left >>= 1) {
            if ((left & 1) == 1) {
                result = times(result, square);
            }
            square = times(square, square);
        }
        held[to] = result;
        return zeros(result);
    }

    long root(int to, int a) {
        registers(to, a);
        int[] values = values(held[a]);
        int[] roots = new int[n];
        long many = 1;
        for (int i = 0; i < n; i++) {
            int found = 0;
            for (int candidate = t - 1; candidate >= 0; candidate--) {
                if (candidate * candidate % t == values[i]) {
                    found++;
                    roots[i] = candidate;
                }
            }
            many *= found;
        }
        if (many == 0) {
            throw new IllegalStateException();
        }
        held[to] = fromValues(roots);
        return many;
    }

    int order(int a) {
        registers(a);
        if (zeros(held[a]) > 0) {
            return 0;
        }
        int result = 1;
        for (int[] power = held[a]; !Arrays.equals(power, one()); power = times(power, held[a])) {
            result++;
        }
        return result;
    }

    int about(int a, int what) {
        registers(a);
        int[] values = values(held[a]);
        switch (what) {
            case 0:
                return Arrays.stream(values).reduce(1, (x, y) -> x * y % t);
            case 1:
                return Arrays.stream(values).sum() % t;
            case 2:
                return zeros(held[a]);
            case 3:
                return (int) Arrays.stream(values).distinct().count();
            case 4:
                int i = n - 1;
                while (i >= 0 && held[a][i] == 0) {
                    i--;
                }
                return i;
            case 5:
                int count = 1;
                int[] next = turned(held[a], 3);
                while (!Arrays.equals(next, held[a])) {
                    next = turned(next, 3);
                    count++;
                }
                return count;
            default:
                throw new IllegalArgumentException();
        }
    }

    boolean same(int a, int b) {
        registers(a, b);
        return Arrays.equals(held[a], held[b]);
    }

    boolean divides(int a, int b) {
        registers(a, b);
        int[] first = values(held[a]);
        int[] second = values(held[b]);
        boolean all = true;
        for (int i = 0; i < n; i++) {
            boolean some = false;
            for (int factor = 0; factor < t; factor++) {
                some |= factor * second[i] % t == first[i];
            }
            all &= some;
        }
        return all;
    }

    int count(int what) {
        int units = 0;
        for (int[] element : held) {
            units += zeros(element) == 0 ? 1 : 0;
        }
        int[] answers = {kind, n, t, z, units};
        return what < 0 || what > 4 ? -1 : answers[what];
    }

    private void registers(int... all) {
        for (int r : all) {
            if (r < 0 || r > 15) {
                throw new NoSuchElementException();
            }
        }
    }

    private void place(int i) {
        if (i < 0 || i >= n) {
            throw new NoSuchElementException();
        }
    }

    private int reduced(long number) {
        return (int) ((number % t + t) % t);
    }

    private int numberPower(int number, int exponent) {
        int result = 1;
        for (int i = 0; i < exponent; i++) {
            result = result * number % t;
        }
        return result;
    }

    private int numberInverse(int number) {
        int candidate = 1;
        while (candidate * number % t != 1) {
            candidate++;
        }
        return candidate;
    }

    private int[] one() {
        int[] result = new int[n];
        result[0] = 1;
        return result;
    }

    private int[] times(int[] a, int[] b) {
        long[] result = new long[n];
        for (int i = 0; i < n; i++) {
            for (int k = 0; k < n; k++) {
                result[(i + k) % n] += i + k < n ? a[i] * b[k] : -a[i] * b[k];
            }
        }
        return Arrays.stream(result).mapToInt(this::reduced).toArray();
    }

    private int[] turned(int[] a, int g) {
        int[] result = new int[n];
        for (int k = 0; k < n; k++) {
            int exponent = (int) Math.floorMod((long) k * g, 2L * n);
            result[exponent % n] = reduced(exponent < n ? a[k] : -a[k]);
        }
        return result;
    }

    private int point(int i) {
        return numberPower(z, 2 * i + 1);
    }

    private int[] values(int[] element) {
        int[] result = new int[n];
        for (int i = 0; i < n; i++) {
            int point = point(i);
            for (int k = n - 1; k >= 0; k--) {
                result[i] = (result[i] * point + element[k]) % t;
            }
        }
        return result;
    }

    private int zeros(int[] element) {
        return (int) Arrays.stream(values(element)).filter(v -> v == 0).count();
    }

    /** For each place the polynomial that is 1 at its point and 0 at all others. */
    private int[][] lagrangePolynomials() {
        int[][] result = new int[n][];
        for (int i = 0; i < n; i++) {
            result[i] = one();
            for (int k = 0; k < n; k++) {
                if (k != i) {
                    int scale = numberInverse(reduced(point(i) - point(k)));
                    int[] factor = new int[n];
                    factor[0] = reduced(-point(k) * scale);
                    factor[1] = scale;
                    result[i] = times(result[i], factor);
                }
            }
        }
        return result;
    }

    private int[] fromValues(int[] values) {
        int[] result = new int[n];
        for (int i = 0; i < n; i++) {
            for (int k = 0; k < n; k++) {
                result[k] = (result[k] + values[i] * lagrange[i][k]) % t;
            }
        }
        return result;
    }

    private int[] inverse(int[] element) {
        if (zeros(element) > 0) {
            throw new IllegalStateException();
        }
        return fromValues(Arrays.stream(values(element)).map(this::numberInverse).toArray());
    }
}
