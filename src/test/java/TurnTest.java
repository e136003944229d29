import java.util.NoSuchElementException;

/** Promise 8: turn. */
public final class TurnTest {
    private static final Check check = new Check();

    public static void main(String[] args) {
        String words = "REGISTER to is a with x^g for x (g below 0, too: x^(2 N) is 1): VALUE 0 of it.";
        check.sentence("Promise 8", words, TurnTest::knownTurns);
        check.sentenceForKinds("Promise 8", words, TurnTest::movesCoefficients);
        check.sentenceForKinds("Promise 8", words, TurnTest::answersValueZero);
        check.sentenceForKinds("Promise 8", words, TurnTest::wrapsRoundAtTwoN);
        check.sentenceForKinds("Promise 8", words, TurnTest::ofARegisterThatIsZero);
        check.sentenceForKinds("Terms and promise 8", Check.MADE_OF, TurnTest::theTargetMayBeTheSource);
        check.sentenceForKinds("Terms and promise 8", Check.NO_SUCH, TurnTest::refusesRegistersThatThereAreNot);
        check.sentenceForKinds("Promise 8", "IllegalArgumentException: g is even.", TurnTest::refusesEvenTurns);
        check.sentenceForKinds("Promises 7 and 8", "a call that throws changes nothing, here and below.",
            TurnTest::whatThrowsChangesNothing);
        check.end();
    }

    private static void knownTurns() {
        ValueRing ring = new ValueRing();
        Check.setAll(ring, 0, 1, 2, 3, 4);
        // x^3 for x: x^6 is -x^2, x^9 is x.
        check.due("turn(1, 0, 3)", ring.turn(1, 0, 3), (1 + 4 * 2 - 3 * 4 + 2 * 8) % 17);
        check.coefficientsDue("x^3", ring, 1, 1, 4, 14, 2);
        ring.turn(2, 0, -1);
        check.coefficientsDue("x^-1", ring, 2, 1, 13, 14, 15);
        ring.turn(3, 0, 1);
        check.coefficientsDue("x", ring, 3, 1, 2, 3, 4);
        ring.turn(4, 0, 5);
        check.coefficientsDue("x^5", ring, 4, 1, 15, 3, 13);
        check.coefficientsDue("a stays", ring, 0, 1, 2, 3, 4);
    }

    /** The nearest odd numbers to 0, N, 2 N and their negatives, and the farthest ones. */
    private static int[] turnsAtTheEdges(int kind) {
        int size = Check.SIZES[kind];
        return new int[] {1, 3, -1, -3, size - 1, size + 1, 1 - size, -1 - size, 2 * size - 1, 2 * size + 1,
            1 - 2 * size, -2 * size - 1, 1234567, -1234567, Integer.MAX_VALUE, Integer.MAX_VALUE - 2,
            Integer.MIN_VALUE + 1, Integer.MIN_VALUE + 3};
    }

    private static void movesCoefficients(int kind) {
        int size = Check.SIZES[kind];
        int modulus = Check.MODULI[kind];
        for (int g : turnsAtTheEdges(kind)) {
            ValueRing ring = Check.ringOf(kind);
            int[] want = new int[size];
            for (int k = 0; k < size; k++) {
                ring.set(0, k, k + 2);
                int exponent = (int) Math.floorMod((long) k * g, 2L * size);
                int number = (k + 2) % modulus;
                want[exponent % size] = exponent < size ? number : (modulus - number) % modulus;
            }
            int answer = ring.turn(1, 0, g);
            check.coefficientsDue("turn by " + g, ring, 1, want);
            check.due("turn by " + g, answer, ring.value(1, 0));
        }
    }

    private static void answersValueZero(int kind) {
        int size = Check.SIZES[kind];
        ValueRing ring = Check.ringOf(kind);
        for (int i = 0; i < size; i++) {
            ring.setValue(0, i, i + 1);
        }
        // At z^g, the point of place (g - 1) / 2, for each g from -2 N on to 4 N.
        for (int g = 1 - 2 * size; g < 4 * size; g += 2) {
            check.due("turn by " + g, ring.turn(1, 0, g), Math.floorMod(g, 2 * size) / 2 + 1);
        }
    }

    private static void wrapsRoundAtTwoN(int kind) {
        int size = Check.SIZES[kind];
        ValueRing ring = Check.ringWithElements(kind);
        for (int g : new int[] {1, 2 * size + 1, 1 - 2 * size, Integer.MIN_VALUE + 1}) {
            ring.turn(7, Check.UNIT, g);
            check.due("by " + g + " it stays", ring.same(7, Check.UNIT), true);
        }
        for (int g : new int[] {-1, 2 * size - 1, 4 * size - 1, Integer.MAX_VALUE}) {
            ring.turn(7, Check.UNIT, g);
            ring.turn(7, 7, -1);
            check.due("by " + g + " and -1 it stays", ring.same(7, Check.UNIT), true);
        }
    }

    private static void ofARegisterThatIsZero(int kind) {
        for (int g : turnsAtTheEdges(kind)) {
            ValueRing ring = Check.ringOf(kind);
            ring.set(1, 0, 5);
            check.due("0 turned by " + g, ring.turn(1, 0, g), 0);
            check.numberDue("0 turned by " + g, ring, 1, 0);
        }
    }

    private static void theTargetMayBeTheSource(int kind) {
        for (int g : turnsAtTheEdges(kind)) {
            ValueRing ring = Check.ringWithElements(kind);
            int apart = ring.turn(7, Check.UNIT, g);
            check.due("turn in place by " + g, ring.turn(Check.UNIT, Check.UNIT, g), apart);
            check.due("turned in place by " + g, ring.same(Check.UNIT, 7), true);
        }
    }

    private static void refusesRegistersThatThereAreNot(int kind) {
        ValueRing ring = Check.ringWithElements(kind);
        for (int r : Check.NO_REGISTERS) {
            check.refused("turn(r, 0, 1)", NoSuchElementException.class, () -> ring.turn(r, 0, 1));
            check.refused("turn(0, r, 1)", NoSuchElementException.class, () -> ring.turn(0, r, 1));
            check.refused("turn(r, 0, 2)", NoSuchElementException.class, () -> ring.turn(r, 0, 2));
            check.refused("turn(0, r, 2)", NoSuchElementException.class, () -> ring.turn(0, r, 2));
        }
    }

    private static void refusesEvenTurns(int kind) {
        int size = Check.SIZES[kind];
        ValueRing ring = Check.ringWithElements(kind);
        int[] even = {0, 2, -2, size, -size, 2 * size, -2 * size, Integer.MAX_VALUE - 1, Integer.MIN_VALUE,
            Integer.MIN_VALUE + 2};
        for (int g : even) {
            check.refused("turn(7, 0, " + g + ")", IllegalArgumentException.class, () -> ring.turn(7, 0, g));
            check.refused("turn(7, 9, " + g + ")", IllegalArgumentException.class, () -> ring.turn(7, 9, g));
        }
    }

    private static void whatThrowsChangesNothing(int kind) {
        ValueRing ring = Check.ringWithElements(kind);
        check.changesNothing(ring, () -> {
            for (int to : new int[] {Check.UNIT, Check.NO_UNIT, 7, Check.LAST}) {
                check.refused("turn(to, 0, 2)", IllegalArgumentException.class, () -> ring.turn(to, 0, 2));
                check.refused("turn(to, 9, 0)", IllegalArgumentException.class, () -> ring.turn(to, 9, 0));
                check.refused("turn(to, 16, 3)", NoSuchElementException.class, () -> ring.turn(to, 16, 3));
                check.refused("turn(16, to, 3)", NoSuchElementException.class, () -> ring.turn(16, to, 3));
            }
        });
    }
}
