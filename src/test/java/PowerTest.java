import java.util.NoSuchElementException;

/** Promise 9: power. */
public final class PowerTest {
    private static final Check check = new Check();

    public static void main(String[] args) {
        for (int kind = 0; kind < 4; kind++) {
            smallPowersAreProducts(kind);
            powersBelowZero(kind);
            powersOfX(kind);
            powersOfWhatHasZeros(kind);
            farExponents(kind);
        }
        theTargetMayBeTheSource();
        refusalsInTheirOrder();
        check.end();
    }

    private static ValueRing ringWithUnit(int kind) {
        ValueRing ring = Check.ringOf(kind);
        for (int i = 0; i < Check.SIZES[kind]; i++) {
            ring.setValue(0, i, 5 * i % (Check.MODULI[kind] - 1) + 1);
        }
        return ring;
    }

    private static void smallPowersAreProducts(int kind) {
        ValueRing ring = ringWithUnit(kind);
        ring.set(1, 0, 1);
        for (int n = 0; n < 20; n++) {
            check.due("zeros of a^" + n, ring.power(2, 0, n), 0);
            check.due("kind " + kind + ": a^" + n, ring.same(2, 1), true);
            ring.join(1, 2, 1, 0);
        }
    }

    private static void powersBelowZero(int kind) {
        ValueRing ring = ringWithUnit(kind);
        ring.set(1, 0, 1);
        for (int n = 1; n < 20; n++) {
            ring.join(1, 3, 1, 0);
            check.due("zeros of a^-" + n, ring.power(2, 0, -n), 0);
            check.due("kind " + kind + ": a^-" + n, ring.same(2, 1), true);
        }
    }

    private static void powersOfX(int kind) {
        ValueRing ring = Check.ringOf(kind);
        int size = Check.SIZES[kind];
        int modulus = Check.MODULI[kind];
        ring.set(0, 1, 1);
        ring.power(1, 0, size);
        check.due("x^N", ring.get(1, 0), modulus - 1);
        ring.power(1, 0, -1);
        check.due("x^-1 is -x^(N - 1)", ring.get(1, size - 1), modulus - 1);
        ring.power(1, 0, Integer.MAX_VALUE);
        check.due("x^(2^31 - 1) is x^-1", ring.get(1, size - 1), modulus - 1);
        ring.power(1, 0, Integer.MIN_VALUE);
        check.due("x^(-2^31) is 1", ring.get(1, 0), 1);
        check.due("x^(-2^31) is 1 and no more", ring.about(1, 4), 0);
    }

    private static void powersOfWhatHasZeros(int kind) {
        int size = Check.SIZES[kind];
        int modulus = Check.MODULI[kind];
        ValueRing ring = Check.ringOf(kind);
        check.due("0^0", ring.power(1, 0, 0), 0);
        check.due("0^0 is 1", ring.get(1, 0), 1);
        check.due("0^0 is 1 and no more", ring.about(1, 4), 0);
        ring.setValue(0, 2, 3);
        for (int n : new int[] {1, 2, modulus - 1, 2 * (modulus - 1), Integer.MAX_VALUE}) {
            check.due("zeros of a^" + n, ring.power(1, 0, n), size - 1);
            check.due("value 0 of a^" + n, ring.value(1, 0), 0);
        }
        ring.power(1, 0, modulus - 1);
        check.due("3^(T - 1)", ring.value(1, 2), 1);
        check.due("a^0 of one with zeros", ring.power(1, 0, 0), 0);
        check.due("a^0 is 1", ring.order(1), 1);
    }

    private static void farExponents(int kind) {
        ValueRing ring = ringWithUnit(kind);
        int modulus = Check.MODULI[kind];
        for (int n : new int[] {Integer.MIN_VALUE, Integer.MIN_VALUE + 1, -1000003, 1000003, Integer.MAX_VALUE}) {
            ring.power(1, 0, n);
            ring.power(2, 0, Math.floorMod(n, modulus - 1));
            check.due("kind " + kind + ": a^" + n, ring.same(1, 2), true);
        }
    }

    private static void theTargetMayBeTheSource() {
        ValueRing ring = new ValueRing();
        Check.setAll(ring, 0, 5, 0, 16, 7);
        ring.power(0, 0, 2);
        check.coefficientsDue("a square in place", ring, 0, 7, 14, 9, 2);
        ring.power(1, 0, -1);
        ring.power(0, 0, -1);
        check.due("a quotient in place", ring.same(0, 1), true);
    }

    private static void refusalsInTheirOrder() {
        ValueRing ring = new ValueRing();
        Check.setAllValues(ring, 0, 1, 2, 3, 0);
        for (int r : Check.NO_REGISTERS) {
            check.refused("power(r, 0, 1)", NoSuchElementException.class, () -> ring.power(r, 0, 1));
            check.refused("power(0, r, 1)", NoSuchElementException.class, () -> ring.power(0, r, 1));
            check.refused("power(r, 0, -1)", NoSuchElementException.class, () -> ring.power(r, 0, -1));
        }
        for (int n : new int[] {-1, -2, -16, Integer.MIN_VALUE}) {
            check.refused("power(1, 0, " + n + ")", IllegalStateException.class, () -> ring.power(1, 0, n));
            check.refused("power(0, 0, " + n + ")", IllegalStateException.class, () -> ring.power(0, 0, n));
        }
        check.valuesDue("after refusals", ring, 0, 1, 2, 3, 0);
        check.valuesDue("after refusals", ring, 1, 0, 0, 0, 0);
    }
}
