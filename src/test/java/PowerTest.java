import java.util.NoSuchElementException;

/** Promise 9: power. */
public final class PowerTest {
    private static final Check check = new Check();

    public static void main(String[] args) {
        String words = "REGISTER to is a^n (a^0: 1, whatever a is; n below 0: of what times a is 1): "
            + "how many VALUES are 0.";
        check.sentenceForKinds("Promise 9", words, PowerTest::smallPowersAreProducts);
        check.sentenceForKinds("Promise 9", words, PowerTest::powersBelowZero);
        check.sentenceForKinds("Promise 9", words, PowerTest::powersOfX);
        check.sentenceForKinds("Promise 9", "a^0: 1, whatever a is", PowerTest::toThePowerZero);
        check.sentenceForKinds("Promise 9", words, PowerTest::powersOfWhatHasZeros);
        check.sentenceForKinds("Promise 9", words, PowerTest::powersOfZero);
        check.sentenceForKinds("Promise 9", words, PowerTest::exponentsWrapRoundAtTLessOne);
        check.sentenceForKinds("Promise 9", words, PowerTest::answersHowManyValuesAreZero);
        check.sentenceForKinds("Terms and promise 9", Check.MADE_OF, PowerTest::theTargetMayBeTheSource);
        check.sentenceForKinds("Terms and promise 9", Check.NO_SUCH, PowerTest::refusesRegistersThatThereAreNot);
        check.sentenceForKinds("Promise 9", "IllegalStateException: n is below 0, and a is no UNIT.",
            PowerTest::refusesNoUnitBelowZero);
        check.sentenceForKinds("Promises 7 and 9", "a call that throws changes nothing, here and below.",
            PowerTest::whatThrowsChangesNothing);
        check.end();
    }

    private static void smallPowersAreProducts(int kind) {
        ValueRing ring = Check.ringWithElements(kind);
        ring.set(7, 0, 1);
        for (int n = 0; n < 20; n++) {
            check.due("VALUES 0 of a^" + n, ring.power(8, Check.LAST, n), 0);
            check.due("a^" + n, ring.same(8, 7), true);
            ring.join(7, 2, 7, Check.LAST);
        }
    }

    private static void powersBelowZero(int kind) {
        ValueRing ring = Check.ringWithElements(kind);
        ring.set(7, 0, 1);
        for (int n = 1; n < 20; n++) {
            ring.join(7, 3, 7, Check.LAST);
            check.due("VALUES 0 of a^-" + n, ring.power(8, Check.LAST, -n), 0);
            check.due("a^-" + n, ring.same(8, 7), true);
        }
        ring.power(8, Check.UNIT, -1);
        ring.join(8, 2, 8, Check.UNIT);
        check.numberDue("a^-1 times a", ring, 8, 1);
    }

    private static void powersOfX(int kind) {
        ValueRing ring = Check.ringOf(kind);
        int size = Check.SIZES[kind];
        int modulus = Check.MODULI[kind];
        ring.set(0, 1, 1);
        ring.power(1, 0, size - 1);
        check.due("x^(N - 1)", ring.get(1, size - 1), 1);
        ring.power(1, 0, size);
        check.numberDue("x^N", ring, 1, modulus - 1);
        ring.power(1, 0, 2 * size);
        check.numberDue("x^(2 N)", ring, 1, 1);
        ring.power(1, 0, -1);
        check.due("x^-1 is -x^(N - 1)", ring.get(1, size - 1), modulus - 1);
        ring.power(1, 0, Integer.MAX_VALUE);
        check.due("x^(2^31 - 1) is x^-1", ring.get(1, size - 1), modulus - 1);
        ring.power(1, 0, Integer.MIN_VALUE);
        check.numberDue("x^(-2^31)", ring, 1, 1);
    }

    private static void toThePowerZero(int kind) {
        for (int a : new int[] {Check.UNIT, Check.NO_UNIT, Check.LAST, 9}) {
            ValueRing ring = Check.ringWithElements(kind);
            check.due("register " + a + " to the power 0", ring.power(7, a, 0), 0);
            check.numberDue("register " + a + " to the power 0", ring, 7, 1);
            ring.power(a, a, 0);
            check.numberDue("register " + a + " to the power 0 in place", ring, a, 1);
        }
    }

    private static void powersOfWhatHasZeros(int kind) {
        int size = Check.SIZES[kind];
        int modulus = Check.MODULI[kind];
        ValueRing ring = Check.ringOf(kind);
        ring.setValue(0, 2, 3);
        int[] exponents = {1, 2, modulus - 2, modulus - 1, modulus, 2 * (modulus - 1), Integer.MAX_VALUE - 1,
            Integer.MAX_VALUE};
        for (int n : exponents) {
            int[] want = new int[size];
            want[2] = Check.numberPower(kind, 3, n % (modulus - 1));
            check.due("VALUES 0 of a^" + n, ring.power(1, 0, n), size - 1);
            check.valuesDue("a^" + n, ring, 1, want);
        }
    }

    private static void powersOfZero(int kind) {
        for (int n : new int[] {1, 2, Check.MODULI[kind] - 1, Integer.MAX_VALUE}) {
            ValueRing ring = Check.ringOf(kind);
            ring.set(1, 0, 5);
            check.due("VALUES 0 of 0^" + n, ring.power(1, 0, n), Check.SIZES[kind]);
            check.numberDue("0^" + n, ring, 1, 0);
        }
    }

    private static void exponentsWrapRoundAtTLessOne(int kind) {
        int full = Check.MODULI[kind] - 1;
        ValueRing ring = Check.ringWithElements(kind);
        int[] exponents = {full - 1, full, full + 1, 2 * full, 1 - full, -full, -1 - full, -2 * full, 1000003, -1000003,
            Integer.MAX_VALUE, Integer.MAX_VALUE - 1, Integer.MIN_VALUE, Integer.MIN_VALUE + 1};
        for (int n : exponents) {
            int[] want = new int[Check.SIZES[kind]];
            for (int i = 0; i < want.length; i++) {
                want[i] = Check.numberPower(kind, i + 1, Math.floorMod(n, full));
            }
            check.due("VALUES 0 of a^" + n, ring.power(7, Check.UNIT, n), 0);
            for (int i : new int[] {0, 1, want.length - 1}) {
                check.due("VALUE " + i + " of a^" + n, ring.value(7, i), want[i]);
            }
        }
    }

    private static void answersHowManyValuesAreZero(int kind) {
        int size = Check.SIZES[kind];
        ValueRing ring = Check.ringOf(kind);
        ring.set(0, 0, 2);
        check.due("none", ring.power(1, 0, 3), 0);
        for (int i = size - 1; i >= 0; i--) {
            ring.setValue(0, i, 0);
            check.due("VALUES from " + i + " on", ring.power(1, 0, 3), size - i);
        }
    }

    private static void theTargetMayBeTheSource(int kind) {
        for (int n : new int[] {0, 1, 2, -1, -2, Integer.MAX_VALUE, Integer.MIN_VALUE}) {
            ValueRing ring = Check.ringWithElements(kind);
            ring.power(7, Check.UNIT, n);
            ring.power(Check.UNIT, Check.UNIT, n);
            check.due("a^" + n + " in place", ring.same(Check.UNIT, 7), true);
        }
    }

    private static void refusesRegistersThatThereAreNot(int kind) {
        ValueRing ring = Check.ringWithElements(kind);
        for (int r : Check.NO_REGISTERS) {
            for (int n : new int[] {1, 0, -1}) {
                check.refused("power(r, 0, " + n + ")", NoSuchElementException.class, () -> ring.power(r, 0, n));
                check.refused("power(0, r, " + n + ")", NoSuchElementException.class, () -> ring.power(0, r, n));
            }
            check.refused("power(r, no unit, -1)", NoSuchElementException.class,
                () -> ring.power(r, Check.NO_UNIT, -1));
        }
    }

    private static void refusesNoUnitBelowZero(int kind) {
        int full = Check.MODULI[kind] - 1;
        for (int i = 0; i < Check.SIZES[kind]; i++) {
            ValueRing ring = Check.ringOf(kind);
            Check.setEachValue(ring, kind, 0, 1);
            ring.setValue(0, i, 0);
            String zero = " with VALUE " + i + " 0";
            for (int n : new int[] {-1, -2, -full, -2 * full, Integer.MIN_VALUE, Integer.MIN_VALUE + 1}) {
                check.refused("a^" + n + zero, IllegalStateException.class, () -> ring.power(1, 0, n));
                check.refused("0^" + n, IllegalStateException.class, () -> ring.power(1, 9, n));
            }
            check.due("a^1" + zero, ring.power(1, 0, 1), 1);
        }
    }

    private static void whatThrowsChangesNothing(int kind) {
        ValueRing ring = Check.ringWithElements(kind);
        check.changesNothing(ring, () -> {
            for (int to : new int[] {Check.UNIT, Check.NO_UNIT, 7, Check.LAST}) {
                check.refused("power(to, no unit, -1)", IllegalStateException.class,
                    () -> ring.power(to, Check.NO_UNIT, -1));
                check.refused("power(to, 9, MIN)", IllegalStateException.class,
                    () -> ring.power(to, 9, Integer.MIN_VALUE));
                check.refused("power(to, 16, 2)", NoSuchElementException.class, () -> ring.power(to, 16, 2));
                check.refused("power(16, to, 2)", NoSuchElementException.class, () -> ring.power(16, to, 2));
            }
        });
    }
}
