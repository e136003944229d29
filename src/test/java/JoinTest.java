import java.util.NoSuchElementException;

/** Promise 7: join. */
public final class JoinTest {
    private static final Check check = new Check();

    public static void main(String[] args) {
        String words = "REGISTER to is op 0: a + b, 1: a - b, 2: a b, 3: what times b is a: "
            + "how many VALUES of it are 0.";
        check.sentence("Promise 7", words, JoinTest::knownJoins);
        check.sentenceForKinds("Promise 7", words, JoinTest::quotientTimesDivisorIsDividend);
        check.sentence("Promise 7", words, JoinTest::answersHowManyValuesAreZero);
        check.sentenceForKinds("Promise 7", words, JoinTest::answersNoneAndAll);
        check.sentenceForKinds("Promise 7", words, JoinTest::ofRegistersThatAreZero);
        check.sentenceForKinds("Promise 7", words, JoinTest::everyPairOfNumbers);
        check.sentence("Terms and promise 7", Check.MADE_OF, JoinTest::theTargetMayBeASource);
        check.sentenceForKinds("Terms and promise 7", Check.NO_SUCH, JoinTest::refusesRegistersThatThereAreNot);
        check.sentenceForKinds("Promise 7", "IllegalArgumentException: another op.", JoinTest::refusesAnotherOp);
        String noUnit = "IllegalStateException: op 3, and b is no UNIT.";
        check.sentenceForKinds("Promise 7", noUnit, JoinTest::refusesNoUnitInOpThree);
        check.sentenceForKinds("Promise 7", noUnit, JoinTest::takesNoUnitElsewhere);
        String last = "(Looked at last; a call that throws changes nothing, here and below.)";
        check.sentenceForKinds("Promise 7", last, JoinTest::theUnitIsLookedAtLast);
        check.sentenceForKinds("Promise 7", last, JoinTest::whatThrowsChangesNothing);
        check.end();
    }

    private static ValueRing twoElements() {
        ValueRing ring = new ValueRing();
        Check.setAll(ring, 0, 1, 2, 3, 4);
        Check.setAll(ring, 1, 5, 0, 16, 7);
        return ring;
    }

    private static void knownJoins() {
        ValueRing ring = twoElements();
        ring.join(2, 0, 0, 1);
        check.coefficientsDue("sum", ring, 2, 6, 2, 2, 11);
        ring.join(3, 1, 0, 1);
        check.coefficientsDue("difference", ring, 3, 13, 2, 4, 14);
        // (1 + 2 x + 3 x^2 + 4 x^3) (5 - x^2 + 7 x^3): 5, 10, 14, 25, then 11, 17, 28 that come back as less.
        ring.join(4, 2, 0, 1);
        check.coefficientsDue("product", ring, 4, 5 - 11 + 17, 10 - 17 + 17, (14 - 28 + 17) % 17, 25 % 17);
        ring.join(5, 3, 4, 1);
        check.coefficientsDue("quotient", ring, 5, 1, 2, 3, 4);
        check.coefficientsDue("a stays", ring, 0, 1, 2, 3, 4);
        check.coefficientsDue("b stays", ring, 1, 5, 0, 16, 7);
    }

    private static void quotientTimesDivisorIsDividend(int kind) {
        ValueRing ring = Check.ringOf(kind);
        for (int i = 0; i < Check.SIZES[kind]; i++) {
            ring.set(0, i, 11 * i * i + 2);
            ring.setValue(1, i, 7 * i % (Check.MODULI[kind] - 1) + 1);
        }
        ring.join(2, 3, 0, 1);
        ring.join(3, 2, 2, 1);
        check.due("quotient times divisor", ring.same(3, 0), true);
        check.due("b by b", ring.join(5, 3, 1, 1), 0);
        check.numberDue("b by b", ring, 5, 1);
    }

    private static void answersHowManyValuesAreZero() {
        ValueRing ring = new ValueRing();
        Check.setAllValues(ring, 0, 0, 3, 5, 14);
        Check.setAllValues(ring, 1, 2, 3, 12, 3);
        check.due("join(2, 0, 0, 1)", ring.join(2, 0, 0, 1), 2);
        check.due("join(2, 1, 0, 1)", ring.join(2, 1, 0, 1), 1);
        check.due("join(2, 2, 0, 1)", ring.join(2, 2, 0, 1), 1);
        check.due("join(2, 3, 0, 1)", ring.join(2, 3, 0, 1), 1);
    }

    private static void answersNoneAndAll(int kind) {
        int size = Check.SIZES[kind];
        ValueRing ring = Check.ringOf(kind);
        ring.set(0, 0, 1);
        ring.set(1, 0, -1);
        check.due("1 + -1", ring.join(2, 0, 0, 1), size);
        check.due("1 + 1", ring.join(2, 0, 0, 0), 0);
        check.due("1 - 1", ring.join(2, 1, 0, 0), size);
        check.due("1 - -1", ring.join(2, 1, 0, 1), 0);
        check.due("1 times 0", ring.join(2, 2, 0, 9), size);
        check.due("1 times -1", ring.join(2, 2, 0, 1), 0);
        check.due("0 by -1", ring.join(2, 3, 9, 1), size);
        check.due("1 by -1", ring.join(2, 3, 0, 1), 0);
        ring.setValue(0, size - 1, 0);
        check.due("only the last VALUE 0", ring.join(2, 3, 0, 1), 1);
        ring.setValue(0, size - 1, 1);
        ring.setValue(0, 0, 0);
        check.due("only the first VALUE 0", ring.join(2, 3, 0, 1), 1);
    }

    private static void ofRegistersThatAreZero(int kind) {
        int size = Check.SIZES[kind];
        ValueRing ring = Check.ringOf(kind);
        ring.set(5, 1, 3);
        for (int op = 0; op < 3; op++) {
            ring.set(2, 0, 7);
            check.due("0 op " + op + " 0", ring.join(2, op, 8, 9), size);
            check.numberDue("0 op " + op + " 0", ring, 2, 0);
        }
        ring.join(2, 0, 5, 9);
        check.due("a + 0 is a", ring.same(2, 5), true);
        ring.join(2, 1, 5, 9);
        check.due("a - 0 is a", ring.same(2, 5), true);
        ring.join(2, 1, 9, 5);
        check.due("0 - a is -a", ring.get(2, 1), Check.MODULI[kind] - 3);
        ring.join(2, 2, 9, 5);
        check.numberDue("0 a", ring, 2, 0);
        ring.join(2, 3, 9, 5);
        check.numberDue("0 by a", ring, 2, 0);
    }

    /** Every pair of numbers side by side, as many in one element as it has VALUES. */
    private static void everyPairOfNumbers(int kind) {
        int size = Check.SIZES[kind];
        int modulus = Check.MODULI[kind];
        for (int first = 0; first < modulus; first++) {
            for (int start = 0; start < modulus; start += size) {
                pairsFrom(kind, first, start);
            }
        }
    }

    private static void pairsFrom(int kind, int first, int start) {
        int size = Check.SIZES[kind];
        int modulus = Check.MODULI[kind];
        ValueRing ring = Check.ringOf(kind);
        ring.set(0, 0, first);
        for (int i = 0; i < size; i++) {
            // Past T - 1 it goes on from 1, so that only the pairs from 0 on hold a number 0.
            ring.setValue(1, i, start + i < modulus ? start + i : start + i - modulus + 1);
        }
        boolean unit = start > 0;
        for (int op = 0; op < (unit ? 4 : 3); op++) {
            ring.join(2, op, 0, 1);
            for (int i = 0; i < size; i++) {
                int second = ring.value(1, i);
                int got = ring.value(2, i);
                boolean good = got >= 0 && got < modulus && got == answerOf(kind, op, first, second, got);
                check.note(good, first + " op " + op + " " + second + " came to " + got);
            }
        }
    }

    /** For op 3 the answer is told by its product with the second number. */
    private static int answerOf(int kind, int op, int first, int second, int got) {
        switch (op) {
            case 0:
                return Check.reduced(kind, first + second);
            case 1:
                return Check.reduced(kind, first - second);
            case 2:
                return Check.reduced(kind, first * second);
            default:
                return Check.reduced(kind, got * second) == first ? got : -1;
        }
    }

    private static void theTargetMayBeASource() {
        for (int op = 0; op < 4; op++) {
            ValueRing apart = twoElements();
            apart.join(2, op, 0, 1);
            int[] want = {apart.get(2, 0), apart.get(2, 1), apart.get(2, 2), apart.get(2, 3)};
            ValueRing first = twoElements();
            first.join(0, op, 0, 1);
            check.coefficientsDue("op " + op + " into a", first, 0, want);
            check.coefficientsDue("op " + op + " into a, b", first, 1, 5, 0, 16, 7);
            ValueRing second = twoElements();
            second.join(1, op, 0, 1);
            check.coefficientsDue("op " + op + " into b", second, 1, want);
            check.coefficientsDue("op " + op + " into b, a", second, 0, 1, 2, 3, 4);
        }
        ValueRing all = twoElements();
        all.join(1, 2, 1, 1);
        // (5 - x^2 + 7 x^3)^2 modulo x^4 + 1.
        check.coefficientsDue("a square in place", all, 1, 24 % 17, 14, 17 * 4 - 59, 70 % 17);
        all.join(1, 1, 1, 1);
        check.coefficientsDue("a - a in place", all, 1, 0, 0, 0, 0);
    }

    private static void refusesRegistersThatThereAreNot(int kind) {
        ValueRing ring = Check.ringWithElements(kind);
        check.changesNothing(ring, () -> {
            for (int r : Check.NO_REGISTERS) {
                for (int op = 0; op < 4; op++) {
                    int tried = op;
                    check.refused("join(r, op, 0, 0)", NoSuchElementException.class, () -> ring.join(r, tried, 0, 0));
                    check.refused("join(0, op, r, 0)", NoSuchElementException.class, () -> ring.join(0, tried, r, 0));
                    check.refused("join(0, op, 0, r)", NoSuchElementException.class, () -> ring.join(0, tried, 0, r));
                }
            }
        });
    }

    private static void refusesAnotherOp(int kind) {
        ValueRing ring = Check.ringWithElements(kind);
        check.changesNothing(ring, () -> {
            for (int op : new int[] {-1, 4, 5, Integer.MIN_VALUE, Integer.MAX_VALUE}) {
                check.refused("join(0, " + op + ", 0, 15)", IllegalArgumentException.class,
                    () -> ring.join(0, op, 0, 15));
                check.refused("join(7, " + op + ", 8, 9)", IllegalArgumentException.class,
                    () -> ring.join(7, op, 8, 9));
            }
        });
    }

    private static void refusesNoUnitInOpThree(int kind) {
        for (int i = 0; i < Check.SIZES[kind]; i++) {
            ValueRing ring = Check.ringOf(kind);
            Check.setEachValue(ring, kind, 0, 1);
            Check.setEachValue(ring, kind, 1, 1);
            ring.setValue(1, i, 0);
            String zero = " with VALUE " + i + " 0";
            check.refused("a by b" + zero, IllegalStateException.class, () -> ring.join(2, 3, 0, 1));
            check.refused("b by b" + zero, IllegalStateException.class, () -> ring.join(2, 3, 1, 1));
            check.refused("0 by b" + zero, IllegalStateException.class, () -> ring.join(2, 3, 9, 1));
            check.numberDue("the target" + zero, ring, 2, 0);
        }
        ValueRing ring = Check.ringWithElements(kind);
        check.refused("a by 0", IllegalStateException.class, () -> ring.join(2, 3, Check.UNIT, 9));
        check.refused("0 by 0", IllegalStateException.class, () -> ring.join(2, 3, 8, 9));
        check.refused("0 by itself", IllegalStateException.class, () -> ring.join(9, 3, 9, 9));
    }

    private static void takesNoUnitElsewhere(int kind) {
        ValueRing ring = Check.ringWithElements(kind);
        int noUnit = Check.NO_UNIT;
        check.due("a that is no UNIT, op 3", ring.join(7, 3, noUnit, Check.UNIT), 1);
        check.due("a product with no UNIT", ring.join(7, 2, Check.UNIT, noUnit), 1);
        check.due("what is no UNIT less itself", ring.join(7, 1, noUnit, noUnit), Check.SIZES[kind]);
        check.due("what is no UNIT and itself", ring.join(7, 0, noUnit, noUnit), 1);
    }

    private static void theUnitIsLookedAtLast(int kind) {
        ValueRing ring = Check.ringWithElements(kind);
        int noUnit = Check.NO_UNIT;
        check.changesNothing(ring, () -> {
            check.refused("join(16, 3, 0, no unit)", NoSuchElementException.class, () -> ring.join(16, 3, 0, noUnit));
            check.refused("join(0, 3, -1, no unit)", NoSuchElementException.class, () -> ring.join(0, 3, -1, noUnit));
            check.refused("join(0, 4, 0, no unit)", IllegalArgumentException.class, () -> ring.join(0, 4, 0, noUnit));
            check.refused("join(0, -1, 0, 9)", IllegalArgumentException.class, () -> ring.join(0, -1, 0, 9));
            check.refused("join(16, 4, 0, no unit)", NoSuchElementException.class, () -> ring.join(16, 4, 0, noUnit));
            check.refused("join(0, 3, 0, no unit)", IllegalStateException.class, () -> ring.join(0, 3, 0, noUnit));
        });
    }

    private static void whatThrowsChangesNothing(int kind) {
        ValueRing ring = Check.ringWithElements(kind);
        int noUnit = Check.NO_UNIT;
        check.changesNothing(ring, () -> {
            for (int to : new int[] {Check.UNIT, noUnit, 7, Check.LAST}) {
                check.refused("join(to, 3, 0, no unit)", IllegalStateException.class,
                    () -> ring.join(to, 3, Check.UNIT, noUnit));
                check.refused("join(to, 3, 15, 9)", IllegalStateException.class, () -> ring.join(to, 3, 15, 9));
                check.refused("join(to, 4, 0, 15)", IllegalArgumentException.class, () -> ring.join(to, 4, 0, 15));
                check.refused("join(to, 0, 0, 16)", NoSuchElementException.class, () -> ring.join(to, 0, 0, 16));
            }
        });
    }
}
