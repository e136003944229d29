import java.util.Arrays;
import java.util.NoSuchElementException;

/**
 * Polynomials modulo x^N + 1 over the numbers modulo T, in sixteen registers.
 *
 * A register holds its VALUES alone: sums, products, quotients, powers, roots and turns are then done place by place,
 * and only a coefficient that is asked for or set has to be reckoned.
 */
public final class ValueRing {
    private static final int REGISTERS = 16;
    private static final int LARGEST_SIZE = 32;
    private static final int[] SIZES = {4, 8, 16, 32};
    private static final int[] MODULI = {17, 17, 97, 193};

    private static final int PLUS = 0;
    private static final int MINUS = 1;
    private static final int TIMES = 2;
    private static final int QUOTIENT = 3;

    private final int[][] rows = new int[REGISTERS][LARGEST_SIZE];
    private final int[] spare = new int[LARGEST_SIZE];
    private final int[] powersOfZ = new int[2 * LARGEST_SIZE];
    private int kindNow;
    private int size;
    private int modulus;
    private int z;
    private int inverseOfSize;

    public ValueRing() {
        startKind(0);
    }

    public int begin(int kind) throws IllegalArgumentException {
        if (kind < 0 || kind >= SIZES.length) {
            throw new IllegalArgumentException("no such kind");
        }
        startKind(kind);
        return z;
    }

    public int set(int r, int i, int v) throws NoSuchElementException {
        needRegister(r);
        needPlace(i);
        int before = coefficient(rows[r], i);
        int change = Math.floorMod(v, modulus) - before;
        for (int k = 0; k < size; k++) {
            rows[r][k] = Math.floorMod(rows[r][k] + change * powerOfPoint(k, i), modulus);
        }
        return before;
    }

    public int get(int r, int i) throws NoSuchElementException {
        needRegister(r);
        needPlace(i);
        return coefficient(rows[r], i);
    }

    public int setValue(int r, int i, int v) throws NoSuchElementException {
        needRegister(r);
        needPlace(i);
        int before = rows[r][i];
        rows[r][i] = Math.floorMod(v, modulus);
        return before;
    }

    public int value(int r, int i) throws NoSuchElementException {
        needRegister(r);
        needPlace(i);
        return rows[r][i];
    }

    public int join(int to, int op, int a, int b)
            throws NoSuchElementException, IllegalArgumentException, IllegalStateException {
        needRegister(to);
        needRegister(a);
        needRegister(b);
        if (op < PLUS || op > QUOTIENT) {
            throw new IllegalArgumentException("no such operation");
        }
        if (op == QUOTIENT) {
            needUnit(b);
        }
        for (int i = 0; i < size; i++) {
            rows[to][i] = joined(op, rows[a][i], rows[b][i]);
        }
        return zeros(rows[to]);
    }

    public int turn(int to, int a, int g) throws NoSuchElementException, IllegalArgumentException {
        needRegister(to);
        needRegister(a);
        if (g % 2 == 0) {
            throw new IllegalArgumentException("an even turn");
        }
        int turnBy = Math.floorMod(g, 2 * size);
        // By way of the spare row, for the two registers may be one.
        for (int i = 0; i < size; i++) {
            spare[i] = rows[a][turnedPlace(i, turnBy)];
        }
        System.arraycopy(spare, 0, rows[to], 0, size);
        return rows[to][0];
    }

    public int power(int to, int a, int n) throws NoSuchElementException, IllegalStateException {
        needRegister(to);
        needRegister(a);
        if (n < 0) {
            needUnit(a);
        }
        // A number that is not 0 is 1 at the power modulus - 1, so an exponent below 0 has one from 0 on that does the
        // same; from 0 on the exponent stays what it is, for 0 itself does not follow that rule.
        int exponent = n < 0 ? Math.floorMod(n, modulus - 1) : n;
        for (int i = 0; i < size; i++) {
            rows[to][i] = raised(rows[a][i], exponent);
        }
        return zeros(rows[to]);
    }

    public long root(int to, int a) throws NoSuchElementException, IllegalStateException {
        needRegister(to);
        needRegister(a);
        for (int i = 0; i < size; i++) {
            spare[i] = leastRoot(rows[a][i]);
            if (spare[i] < 0) {
                throw new IllegalStateException("no square");
            }
        }
        System.arraycopy(spare, 0, rows[to], 0, size);
        // Each VALUE that is not 0 has two roots, whatever the others have.
        return 1L << (size - zeros(spare));
    }

    public int order(int a) throws NoSuchElementException {
        needRegister(a);
        if (zeros(rows[a]) > 0) {
            return 0;
        }
        int n = 1;
        // At modulus - 1 every unit is 1.
        while (n < modulus - 1 && !isOneAtPower(rows[a], n)) {
            n++;
        }
        return n;
    }

    public int about(int a, int what) throws NoSuchElementException, IllegalArgumentException {
        needRegister(a);
        switch (what) {
            case 0:
                return product(rows[a]);
            case 1:
                return sum(rows[a]);
            case 2:
                return zeros(rows[a]);
            case 3:
                return differentValues(rows[a]);
            case 4:
                return degree(rows[a]);
            case 5:
                return turnsByThree(rows[a]);
            default:
                throw new IllegalArgumentException("no such question");
        }
    }

    public boolean same(int a, int b) throws NoSuchElementException {
        needRegister(a);
        needRegister(b);
        for (int i = 0; i < size; i++) {
            if (rows[a][i] != rows[b][i]) {
                return false;
            }
        }
        return true;
    }

    public boolean divides(int a, int b) throws NoSuchElementException {
        needRegister(a);
        needRegister(b);
        for (int i = 0; i < size; i++) {
            if (rows[b][i] == 0 && rows[a][i] != 0) {
                return false;
            }
        }
        return true;
    }

    public int count(int what) {
        switch (what) {
            case 0:
                return kindNow;
            case 1:
                return size;
            case 2:
                return modulus;
            case 3:
                return z;
            case 4:
                return units();
            default:
                return -1;
        }
    }

    private void startKind(int kind) {
        kindNow = kind;
        size = SIZES[kind];
        modulus = MODULI[kind];
        z = leastZ();
        inverseOfSize = inverse(size);
        powersOfZ[0] = 1;
        for (int k = 1; k < 2 * size; k++) {
            powersOfZ[k] = powersOfZ[k - 1] * z % modulus;
        }
        for (int r = 0; r < REGISTERS; r++) {
            Arrays.fill(rows[r], 0);
        }
    }

    private int leastZ() {
        int candidate = 2;
        while (candidate < modulus - 1 && raised(candidate, size) != modulus - 1) {
            candidate++;
        }
        return candidate;
    }

    private void needRegister(int r) {
        if (r < 0 || r >= REGISTERS) {
            throw new NoSuchElementException("no such register");
        }
    }

    private void needPlace(int i) {
        if (i < 0 || i >= size) {
            throw new NoSuchElementException("no such place");
        }
    }

    private void needUnit(int r) {
        if (zeros(rows[r]) > 0) {
            throw new IllegalStateException("no unit");
        }
    }

    /** The point of VALUE i, z^(2 i + 1), to the given exponent, which may be below 0. */
    private int powerOfPoint(int i, int exponent) {
        return powersOfZ[Math.floorMod((2 * i + 1) * exponent, 2 * size)];
    }

    /** Coefficient k: the VALUES added, each times its point's power -k, and divided by N. */
    private int coefficient(int[] row, int k) {
        int total = 0;
        for (int i = 0; i < size; i++) {
            total = (total + row[i] * powerOfPoint(i, -k)) % modulus;
        }
        return total * inverseOfSize % modulus;
    }

    /** The place whose point is the point of place i to the odd power g, g from 0 to 2 N - 1. */
    private int turnedPlace(int i, int g) {
        return (2 * i + 1) * g % (2 * size) / 2;
    }

    private int joined(int op, int first, int second) {
        switch (op) {
            case PLUS:
                return (first + second) % modulus;
            case MINUS:
                return (first + modulus - second) % modulus;
            case TIMES:
                return first * second % modulus;
            default:
                return first * inverse(second) % modulus;
        }
    }

    private int inverse(int number) {
        return raised(number, modulus - 2);
    }

    /** The number to an exponent from 0 on, by squaring; 0 to the power 0 is 1. */
    private int raised(int number, int exponent) {
        int result = 1;
        int square = number;
        for (int left = exponent; left > 0; left = left / 2) {
            if (left % 2 == 1) {
                result = result * square % modulus;
            }
            square = square * square % modulus;
        }
        return result;
    }

    /** The smallest number whose square this is, or -1: the smaller one of two roots is below half of T. */
    private int leastRoot(int number) {
        for (int candidate = 0; candidate <= modulus / 2; candidate++) {
            if (candidate * candidate % modulus == number) {
                return candidate;
            }
        }
        return -1;
    }

    private boolean isOneAtPower(int[] row, int n) {
        for (int i = 0; i < size; i++) {
            if (raised(row[i], n) != 1) {
                return false;
            }
        }
        return true;
    }

    private int product(int[] row) {
        int result = 1;
        for (int i = 0; i < size; i++) {
            result = result * row[i] % modulus;
        }
        return result;
    }

    private int sum(int[] row) {
        int result = 0;
        for (int i = 0; i < size; i++) {
            result = (result + row[i]) % modulus;
        }
        return result;
    }

    private int zeros(int[] row) {
        int result = 0;
        for (int i = 0; i < size; i++) {
            if (row[i] == 0) {
                result++;
            }
        }
        return result;
    }

    private int differentValues(int[] row) {
        int result = 0;
        for (int i = 0; i < size; i++) {
            if (isFirstSuchValue(row, i)) {
                result++;
            }
        }
        return result;
    }

    private boolean isFirstSuchValue(int[] row, int i) {
        for (int k = 0; k < i; k++) {
            if (row[k] == row[i]) {
                return false;
            }
        }
        return true;
    }

    private int degree(int[] row) {
        int i = size - 1;
        while (i >= 0 && coefficient(row, i) == 0) {
            i--;
        }
        return i;
    }

    private int turnsByThree(int[] row) {
        int n = 1;
        int turnBy = 3;
        // 3^n is 1 modulo 2 N for some n below N, so the bound is never what ends it.
        while (n < size && !isSameTurned(row, turnBy)) {
            n++;
            turnBy = turnBy * 3 % (2 * size);
        }
        return n;
    }

    private boolean isSameTurned(int[] row, int g) {
        for (int i = 0; i < size; i++) {
            if (row[turnedPlace(i, g)] != row[i]) {
                return false;
            }
        }
        return true;
    }

    private int units() {
        int result = 0;
        for (int r = 0; r < REGISTERS; r++) {
            if (zeros(rows[r]) == 0) {
                result++;
            }
        }
        return result;
    }
}
