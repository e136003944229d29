import java.util.NoSuchElementException;

/** Promise 7: join. */
public final class JoinTest {
    private static final Check check = new Check();

    public static void main(String[] args) {
        knownJoins();
        productsWrapRound();
        for (int kind = 0; kind < 4; kind++) {
            quotientTimesDivisorIsDividend(kind);
        }
        answersHowManyValuesAreZero();
        theTargetMayBeASource();
        refusalsInTheirOrder();
        check.end();
    }

    private static ValueRing twoElements() {
        ValueRing ring = new ValueRing();
        Check.setAll(ring, 0, 1, 2, 3, 4);
        Check.setAll(ring, 1, 5, 0, 16, 7);
        return ring;
    }

    private static void knownJoins() {
        ValueRing ring = twoElements();
        ring.join(2, 0, 0, 1);
        check.coefficientsDue("sum", ring, 2, 6, 2, 2, 11);
        ring.join(3, 1, 0, 1);
        check.coefficientsDue("difference", ring, 3, 13, 2, 4, 14);
        // (1 + 2 x + 3 x^2 + 4 x^3) (5 - x^2 + 7 x^3): 5, 10, 14, 25, then 11, 17, 28 that come back as less.
        ring.join(4, 2, 0, 1);
        check.coefficientsDue("product", ring, 4, 5 - 11 + 17, 10 - 17 + 17, (14 - 28 + 17) % 17, 25 % 17);
        ring.join(5, 3, 4, 1);
        check.coefficientsDue("quotient", ring, 5, 1, 2, 3, 4);
        check.coefficientsDue("a stays", ring, 0, 1, 2, 3, 4);
        check.coefficientsDue("b stays", ring, 1, 5, 0, 16, 7);
    }

    private static void productsWrapRound() {
        for (int kind = 0; kind < 4; kind++) {
            ValueRing ring = Check.ringOf(kind);
            int size = Check.SIZES[kind];
            ring.set(0, 1, 1);
            ring.set(1, size - 1, 1);
            check.due("x times x^(N - 1)", ring.join(2, 2, 0, 1), 0);
            check.due("x^N is -1", ring.get(2, 0), Check.MODULI[kind] - 1);
            check.due("x^N has degree 0", ring.about(2, 4), 0);
        }
    }

    private static void quotientTimesDivisorIsDividend(int kind) {
        ValueRing ring = Check.ringOf(kind);
        for (int i = 0; i < Check.SIZES[kind]; i++) {
            ring.set(0, i, 11 * i * i + 2);
            ring.setValue(1, i, 7 * i % (Check.MODULI[kind] - 1) + 1);
        }
        ring.join(2, 3, 0, 1);
        ring.join(3, 2, 2, 1);
        check.due("kind " + kind + ": quotient times divisor", ring.same(3, 0), true);
        check.due("0 divided", ring.join(4, 3, 9, 1), Check.SIZES[kind]);
        ring.join(5, 3, 1, 1);
        check.due("b by b is 1", ring.order(5), 1);
    }

    private static void answersHowManyValuesAreZero() {
        ValueRing ring = new ValueRing();
        Check.setAllValues(ring, 0, 0, 3, 5, 14);
        Check.setAllValues(ring, 1, 2, 3, 12, 3);
        check.due("join(2, 0, 0, 1)", ring.join(2, 0, 0, 1), 2);
        check.due("join(2, 1, 0, 1)", ring.join(2, 1, 0, 1), 1);
        check.due("join(2, 2, 0, 1)", ring.join(2, 2, 0, 1), 1);
        check.due("join(2, 2, 0, 7)", ring.join(2, 2, 0, 7), 4);
        check.due("join(2, 3, 0, 1)", ring.join(2, 3, 0, 1), 1);
        check.due("join(2, 1, 1, 1)", ring.join(2, 1, 1, 1), 4);
    }

    private static void theTargetMayBeASource() {
        for (int op = 0; op < 4; op++) {
            ValueRing apart = twoElements();
            apart.join(2, op, 0, 1);
            int[] want = {apart.get(2, 0), apart.get(2, 1), apart.get(2, 2), apart.get(2, 3)};
            ValueRing first = twoElements();
            first.join(0, op, 0, 1);
            check.coefficientsDue("op " + op + " into a", first, 0, want);
            check.coefficientsDue("op " + op + " into a, b", first, 1, 5, 0, 16, 7);
            ValueRing second = twoElements();
            second.join(1, op, 0, 1);
            check.coefficientsDue("op " + op + " into b", second, 1, want);
            check.coefficientsDue("op " + op + " into b, a", second, 0, 1, 2, 3, 4);
        }
        ValueRing all = twoElements();
        all.join(1, 2, 1, 1);
        // (5 - x^2 + 7 x^3)^2 modulo x^4 + 1.
        check.coefficientsDue("a square in place", all, 1, 24 % 17, 14, 17 * 4 - 59, 70 % 17);
    }

    private static void refusalsInTheirOrder() {
        ValueRing ring = twoElements();
        Check.setAllValues(ring, 6, 1, 1, 0, 1);
        for (int r : Check.NO_REGISTERS) {
            check.refused("join(r, 0, 0, 0)", NoSuchElementException.class, () -> ring.join(r, 0, 0, 0));
            check.refused("join(0, 0, r, 0)", NoSuchElementException.class, () -> ring.join(0, 0, r, 0));
            check.refused("join(0, 0, 0, r)", NoSuchElementException.class, () -> ring.join(0, 0, 0, r));
            check.refused("join(r, 4, 0, 0)", NoSuchElementException.class, () -> ring.join(r, 4, 0, 0));
            check.refused("join(0, 4, r, 0)", NoSuchElementException.class, () -> ring.join(0, 4, r, 0));
            check.refused("join(0, 4, 0, r)", NoSuchElementException.class, () -> ring.join(0, 4, 0, r));
            check.refused("join(r, 3, 0, 6)", NoSuchElementException.class, () -> ring.join(r, 3, 0, 6));
            check.refused("join(0, 3, r, 6)", NoSuchElementException.class, () -> ring.join(0, 3, r, 6));
        }
        for (int op : new int[] {-1, 4, 5, Integer.MIN_VALUE, Integer.MAX_VALUE}) {
            check.refused("join(0, " + op + ", 0, 1)", IllegalArgumentException.class, () -> ring.join(0, op, 0, 1));
            check.refused("join(0, " + op + ", 0, 6)", IllegalArgumentException.class, () -> ring.join(0, op, 0, 6));
        }
        check.refused("join(0, 3, 0, 6)", IllegalStateException.class, () -> ring.join(0, 3, 0, 6));
        check.refused("join(0, 3, 9, 9)", IllegalStateException.class, () -> ring.join(0, 3, 9, 9));
        check.refused("join(6, 3, 6, 6)", IllegalStateException.class, () -> ring.join(6, 3, 6, 6));
        check.coefficientsDue("after refusals", ring, 0, 1, 2, 3, 4);
        check.valuesDue("after refusals", ring, 6, 1, 1, 0, 1);
        check.due("a that is no unit", ring.join(7, 3, 6, 1), 1);
        check.due("a product with no unit", ring.join(7, 2, 1, 6), 1);
    }
}
