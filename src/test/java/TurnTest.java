import java.util.NoSuchElementException;

/** Promise 8: turn. */
public final class TurnTest {
    private static final Check check = new Check();

    public static void main(String[] args) {
        knownTurns();
        for (int kind = 0; kind < 4; kind++) {
            movesCoefficients(kind);
            theTargetMayBeTheSource(kind);
        }
        refusalsInTheirOrder();
        check.end();
    }

    private static void knownTurns() {
        ValueRing ring = new ValueRing();
        Check.setAll(ring, 0, 1, 2, 3, 4);
        // x^3 for x: x^6 is -x^2, x^9 is x.
        check.due("turn(1, 0, 3)", ring.turn(1, 0, 3), (1 + 4 * 2 - 3 * 4 + 2 * 8) % 17);
        check.coefficientsDue("x^3", ring, 1, 1, 4, 14, 2);
        ring.turn(2, 0, -1);
        check.coefficientsDue("x^-1", ring, 2, 1, 13, 14, 15);
        ring.turn(3, 0, 1);
        check.coefficientsDue("x", ring, 3, 1, 2, 3, 4);
        ring.turn(4, 0, 5);
        check.coefficientsDue("x^5", ring, 4, 1, 15, 3, 13);
        check.coefficientsDue("a stays", ring, 0, 1, 2, 3, 4);
    }

    private static void movesCoefficients(int kind) {
        int size = Check.SIZES[kind];
        int modulus = Check.MODULI[kind];
        int[] turns = {1, 3, -1, -3, size - 1, size + 1, 2 * size - 1, 2 * size + 1, -2 * size - 1,
            Integer.MAX_VALUE, Integer.MIN_VALUE + 1, 1234567};
        for (int g : turns) {
            ValueRing ring = Check.ringOf(kind);
            int[] want = new int[size];
            for (int k = 0; k < size; k++) {
                ring.set(0, k, k + 2);
                int exponent = (int) Math.floorMod((long) k * g, 2L * size);
                int number = (k + 2) % modulus;
                want[exponent % size] = exponent < size ? number : (modulus - number) % modulus;
            }
            int answer = ring.turn(1, 0, g);
            check.coefficientsDue("kind " + kind + ", turn by " + g, ring, 1, want);
            check.due("turn's answer", answer, ring.value(1, 0));
        }
    }

    private static void theTargetMayBeTheSource(int kind) {
        ValueRing ring = Check.ringOf(kind);
        for (int k = 0; k < Check.SIZES[kind]; k++) {
            ring.set(0, k, k * k + 2);
        }
        ring.turn(1, 0, 3);
        ring.turn(0, 0, 3);
        check.due("kind " + kind + ": turned in place", ring.same(0, 1), true);
    }

    private static void refusalsInTheirOrder() {
        ValueRing ring = new ValueRing();
        Check.setAll(ring, 0, 1, 2, 3, 4);
        for (int r : Check.NO_REGISTERS) {
            check.refused("turn(r, 0, 1)", NoSuchElementException.class, () -> ring.turn(r, 0, 1));
            check.refused("turn(0, r, 1)", NoSuchElementException.class, () -> ring.turn(0, r, 1));
            check.refused("turn(r, 0, 2)", NoSuchElementException.class, () -> ring.turn(r, 0, 2));
            check.refused("turn(0, r, 2)", NoSuchElementException.class, () -> ring.turn(0, r, 2));
        }
        for (int g : new int[] {0, 2, -2, 8, Integer.MIN_VALUE, Integer.MAX_VALUE - 1}) {
            check.refused("turn(0, 0, " + g + ")", IllegalArgumentException.class, () -> ring.turn(0, 0, g));
            check.refused("turn(0, 5, " + g + ")", IllegalArgumentException.class, () -> ring.turn(0, 5, g));
        }
        check.coefficientsDue("after refusals", ring, 0, 1, 2, 3, 4);
    }
}
