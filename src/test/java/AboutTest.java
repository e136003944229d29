import java.util.NoSuchElementException;

/** Promise 12: about. */
public final class AboutTest {
    private static final Check check = new Check();

    public static void main(String[] args) {
        String words = "what 0: all VALUES multiplied, 1: added (both modulo T), 2: how many are 0, "
            + "3: how many different ones, 4: the highest i whose coefficient is not 0 (-1: none), "
            + "5: the least n from 1 on with a at x^(3^n) a.";
        check.sentence("Promise 12", words, AboutTest::known);
        check.sentenceForKinds("Promise 12", "what 0: all VALUES multiplied", AboutTest::products);
        check.sentenceForKinds("Promise 12", "1: added (both modulo T)", AboutTest::sums);
        check.sentenceForKinds("Promise 12", "2: how many are 0", AboutTest::zeros);
        check.sentenceForKinds("Promise 12", "3: how many different ones", AboutTest::differentOnes);
        check.sentenceForKinds("Promise 12", "4: the highest i whose coefficient is not 0 (-1: none)",
            AboutTest::degrees);
        check.sentenceForKinds("Promise 12", "5: the least n from 1 on with a at x^(3^n) a", AboutTest::turnsByThree);
        check.sentenceForKinds("Promise 12", "5: the least n from 1 on with a at x^(3^n) a",
            AboutTest::theSmallestAndTheLargestTurn);
        check.sentenceForKinds("Promise 12", words, AboutTest::aboutZeroAndOne);
        check.sentenceForKinds("Promise 12", words, AboutTest::aboutChangesNothing);
        check.sentenceForKinds("Terms and promise 12", Check.NO_SUCH, AboutTest::refusesRegistersThatThereAreNot);
        check.sentenceForKinds("Promise 12", "IllegalArgumentException: another what.", AboutTest::refusesAnotherWhat);
        check.end();
    }

    private static void allDue(String of, ValueRing ring, int a, int... want) {
        for (int what = 0; what < want.length; what++) {
            check.due(of + ": about(" + a + ", " + what + ")", ring.about(a, what), want[what]);
        }
    }

    private static void known() {
        ValueRing ring = new ValueRing();
        Check.setAllValues(ring, 0, 3, 5, 3, 16);
        allDue("3 5 3 16", ring, 0, 3 * 5 * 3 * 16 % 17, 27 % 17, 0, 3);
        Check.setAllValues(ring, 1, 0, 5, 0, 16);
        allDue("0 5 0 16", ring, 1, 0, 21 % 17, 2, 3);
        Check.setAllValues(ring, 2, 7, 7, 7, 7);
        allDue("7 7 7 7", ring, 2, 2401 % 17, 28 % 17, 0, 1, 0, 1);
        Check.setAllValues(ring, 3, 1, 2, 3, 4);
        allDue("1 2 3 4", ring, 3, 24 % 17, 10, 0, 4);
        Check.setAllValues(ring, 4, 4, 4, 9, 9);
        allDue("4 4 9 9", ring, 4, 36 * 36 % 17, 26 % 17, 0, 2);
        // x^3 for x exchanges the points 2 and 8, and the points 15 and 9.
        check.due("4 4 9 9 turned", ring.about(4, 5), 1);
        check.due("3 5 3 16 turned", ring.about(0, 5), 2);
    }

    private static void products(int kind) {
        int size = Check.SIZES[kind];
        ValueRing ring = Check.ringOf(kind);
        Check.setEachValue(ring, kind, 0, -1);
        check.due("T - 1 in all places", ring.about(0, 0), 1);
        ring.setValue(0, size - 1, 1);
        check.due("1 in the last place", ring.about(0, 0), Check.MODULI[kind] - 1);
        ring.setValue(0, 0, 2);
        check.due("2 in the first place", ring.about(0, 0), 2);
        for (int i = 0; i < size; i++) {
            int before = ring.setValue(0, i, 0);
            check.due("0 in place " + i, ring.about(0, 0), 0);
            ring.setValue(0, i, before);
        }
    }

    private static void sums(int kind) {
        int size = Check.SIZES[kind];
        int modulus = Check.MODULI[kind];
        ValueRing ring = Check.ringOf(kind);
        check.due("0 in all places", ring.about(0, 1), 0);
        Check.setEachValue(ring, kind, 0, -1);
        check.due("T - 1 in all places", ring.about(0, 1), modulus - size);
        Check.setEachValue(ring, kind, 0, 0);
        ring.setValue(0, 0, modulus - 1);
        check.due("T - 1 and 0s", ring.about(0, 1), modulus - 1);
        ring.setValue(0, size - 1, 1);
        check.due("T - 1 and 1", ring.about(0, 1), 0);
        ring.setValue(0, size - 1, 2);
        check.due("T - 1 and 2", ring.about(0, 1), 1);
    }

    private static void zeros(int kind) {
        int size = Check.SIZES[kind];
        ValueRing ring = Check.ringOf(kind);
        check.due("all", ring.about(0, 2), size);
        for (int i = 0; i < size; i++) {
            ring.setValue(0, i, 1);
            check.due("those after place " + i, ring.about(0, 2), size - 1 - i);
        }
        ring.setValue(0, 0, 0);
        check.due("only the first", ring.about(0, 2), 1);
        ring.setValue(0, 0, Check.MODULI[kind]);
        check.due("the first is T", ring.about(0, 2), 1);
    }

    private static void differentOnes(int kind) {
        int size = Check.SIZES[kind];
        ValueRing ring = Check.ringOf(kind);
        check.due("0 in all places", ring.about(0, 3), 1);
        for (int i = 0; i < size; i++) {
            ring.setValue(0, i, i + 1);
            // The places behind are 0 as long as there are some.
            check.due("up to place " + i, ring.about(0, 3), i == size - 1 ? size : i + 2);
        }
        ring.setValue(0, size - 1, 1);
        check.due("the last as the first", ring.about(0, 3), size - 1);
        ring.setValue(0, 0, 0);
        check.due("0 is one of them", ring.about(0, 3), size);
    }

    private static void degrees(int kind) {
        ValueRing ring = Check.ringOf(kind);
        int size = Check.SIZES[kind];
        check.due("degree of 0", ring.about(0, 4), -1);
        for (int i = 0; i < size; i++) {
            ring.set(0, i, 1);
            check.due("degree up", ring.about(0, 4), i);
        }
        for (int i = size - 1; i >= 0; i--) {
            ring.set(0, i, Check.MODULI[kind]);
            check.due("degree down", ring.about(0, 4), i - 1);
        }
        ring.set(0, size - 1, -1);
        check.due("only the last", ring.about(0, 4), size - 1);
    }

    private static void turnsByThree(int kind) {
        int size = Check.SIZES[kind];
        for (int k = 0; k < size; k++) {
            ValueRing ring = Check.ringOf(kind);
            ring.set(0, k, 1);
            int want = 1;
            for (int g = 3; (g * k - k) % (2 * size) != 0; g = g * 3 % (2 * size)) {
                want++;
            }
            check.due("x^" + k + " turned", ring.about(0, 5), want);
        }
    }

    private static void theSmallestAndTheLargestTurn(int kind) {
        int size = Check.SIZES[kind];
        ValueRing ring = Check.ringOf(kind);
        check.due("0", ring.about(0, 5), 1);
        ring.set(0, 0, -1);
        check.due("-1", ring.about(0, 5), 1);
        ring.set(0, 1, 1);
        check.due("x - 1", ring.about(0, 5), size / 2);
        // One VALUE that is not as the others: only when it comes back to its place.
        for (int i = 0; i < size; i++) {
            ValueRing one = Check.ringOf(kind);
            one.setValue(0, i, 1);
            check.due("1 in place " + i + " alone", one.about(0, 5), size / 2);
        }
        // All that x^3 for x comes to, added: x, x^3, x^9 ..
        ring.set(1, 1, 1);
        for (int n = 0; n < size / 2; n++) {
            ring.join(2, 0, 2, 1);
            ring.turn(1, 1, 3);
        }
        check.due("the sum of all turns", ring.about(2, 5), 1);
    }

    private static void aboutZeroAndOne(int kind) {
        int size = Check.SIZES[kind];
        ValueRing ring = Check.ringOf(kind);
        allDue("0", ring, 0, 0, 0, size, 1, -1, 1);
        ring.set(0, 0, 1);
        allDue("1", ring, 0, 1, size, 0, 1, 0, 1);
        ring.set(1, 1, 1);
        // The points are the roots of x^N + 1: multiplied 1, added 0, and all different.
        allDue("x", ring, 1, 1, 0, 0, size, 1, size / 2);
    }

    private static void aboutChangesNothing(int kind) {
        ValueRing ring = Check.ringWithElements(kind);
        check.changesNothing(ring, () -> {
            for (int what = 0; what < 6; what++) {
                check.due("asked twice", ring.about(Check.UNIT, what), ring.about(Check.UNIT, what));
            }
        });
    }

    private static void refusesRegistersThatThereAreNot(int kind) {
        ValueRing ring = Check.ringWithElements(kind);
        check.changesNothing(ring, () -> {
            for (int what = -1; what < 7; what++) {
                int asked = what;
                for (int r : Check.NO_REGISTERS) {
                    check.refused("about(" + r + ", " + what + ")", NoSuchElementException.class,
                        () -> ring.about(r, asked));
                }
            }
        });
    }

    private static void refusesAnotherWhat(int kind) {
        ValueRing ring = Check.ringWithElements(kind);
        check.changesNothing(ring, () -> {
            for (int what : new int[] {-1, 6, 7, Integer.MIN_VALUE, Integer.MAX_VALUE}) {
                for (int a : new int[] {Check.UNIT, Check.NO_UNIT, 9, Check.LAST}) {
                    check.refused("about(" + a + ", " + what + ")", IllegalArgumentException.class,
                        () -> ring.about(a, what));
                }
            }
        });
    }
}
