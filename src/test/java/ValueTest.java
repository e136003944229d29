import java.util.NoSuchElementException;

/** Promises 5 and 6: setValue and value. */
public final class ValueTest {
    private static final Check check = new Check();

    public static void main(String[] args) {
        String setValue = "VALUE i becomes v (modulo T), all other VALUES stay: what it was.";
        check.sentenceForKinds("Promise 5", setValue, ValueTest::settingOneLeavesTheOthers);
        check.sentenceForKinds("Promise 5", setValue, ValueTest::takesNumbersModuloT);
        check.sentence("Promise 5", setValue, ValueTest::theOtherRegistersStay);
        check.sentenceForKinds("Terms and promise 5", Check.NO_SUCH, ValueTest::setValueRefusesWhatThereIsNot);
        check.sentence("Promise 6", "VALUE i.", ValueTest::knownValues);
        check.sentenceForKinds("Promise 6", "VALUE i.", ValueTest::valuesAreWhatItIsAtTheRoots);
        check.sentenceForKinds("Promise 6", "VALUE i.", ValueTest::theFirstAndTheLastPlace);
        check.sentenceForKinds("Promise 6", "VALUE i.", ValueTest::valueChangesNothing);
        check.sentenceForKinds("Terms and promise 6", Check.NO_SUCH, ValueTest::valueRefusesWhatThereIsNot);
        check.end();
    }

    private static void settingOneLeavesTheOthers(int kind) {
        int size = Check.SIZES[kind];
        for (int i : new int[] {0, size / 2, size - 1}) {
            ValueRing ring = Check.ringOf(kind);
            ring.set(0, 1, 1);
            int[] want = new int[size];
            for (int k = 0; k < size; k++) {
                want[k] = ring.value(0, k);
            }
            check.due("setValue's answer", ring.setValue(0, i, 0), want[i]);
            want[i] = 0;
            check.valuesDue("VALUE " + i + " became 0", ring, 0, want);
            check.due("setValue's next answer", ring.setValue(0, i, -1), 0);
            want[i] = Check.MODULI[kind] - 1;
            check.valuesDue("VALUE " + i + " became T - 1", ring, 0, want);
        }
    }

    private static void takesNumbersModuloT(int kind) {
        ValueRing ring = Check.ringOf(kind);
        for (int i : new int[] {0, Check.SIZES[kind] - 1}) {
            int before = 0;
            for (int v : Check.numbersAtTheEdges(kind)) {
                int want = Check.reduced(kind, v);
                check.due("setValue(1, " + i + ", " + v + ")", ring.setValue(1, i, v), before);
                check.due("value after setValue of " + v, ring.value(1, i), want);
                check.due("setValue of " + v + " once more", ring.setValue(1, i, v), want);
                before = want;
            }
        }
    }

    private static void theOtherRegistersStay() {
        ValueRing ring = new ValueRing();
        for (int r = 0; r < Check.REGISTERS; r++) {
            ring.setValue(r, 3, r + 1);
        }
        for (int r = 0; r < Check.REGISTERS; r++) {
            check.valuesDue("registers", ring, r, 0, 0, 0, r + 1);
        }
    }

    private static void setValueRefusesWhatThereIsNot(int kind) {
        ValueRing ring = Check.ringWithElements(kind);
        check.changesNothing(ring, () -> {
            for (int r : Check.NO_REGISTERS) {
                check.refused("setValue(" + r + ", 0, 1)", NoSuchElementException.class, () -> ring.setValue(r, 0, 1));
            }
            for (int i : Check.noPlaces(kind)) {
                check.refused("setValue(0, " + i + ", 1)", NoSuchElementException.class, () -> ring.setValue(0, i, 1));
                check.refused("setValue(15, " + i + ", 0)", NoSuchElementException.class,
                    () -> ring.setValue(15, i, 0));
            }
        });
    }

    private static void knownValues() {
        ValueRing ring = new ValueRing();
        // 1 + 2 x + 3 x^2 + 4 x^3 at 2, 8, 15 and 9, modulo 17.
        Check.setAll(ring, 0, 1, 2, 3, 4);
        check.valuesDue("1 2 3 4", ring, 0, 49 % 17, 2257 % 17, 14206 % 17, 3178 % 17);
        Check.setAllValues(ring, 1, 2, 8, 15, 9);
        check.coefficientsDue("the values of x", ring, 1, 0, 1, 0, 0);
        Check.setAllValues(ring, 2, 5, 5, 5, 5);
        check.coefficientsDue("one value throughout", ring, 2, 5, 0, 0, 0);
    }

    private static void valuesAreWhatItIsAtTheRoots(int kind) {
        ValueRing ring = Check.ringOf(kind);
        int size = Check.SIZES[kind];
        int modulus = Check.MODULI[kind];
        for (int k = 0; k < size; k++) {
            ring.set(4, k, 5 * k * k + 3);
        }
        for (int i = 0; i < size; i++) {
            int point = Check.numberPower(kind, Check.LEAST_Z[kind], 2 * i + 1);
            int want = 0;
            for (int k = size - 1; k >= 0; k--) {
                want = (want * point + 5 * k * k + 3) % modulus;
            }
            check.due("value(4, " + i + ")", ring.value(4, i), want);
        }
    }

    private static void theFirstAndTheLastPlace(int kind) {
        ValueRing ring = Check.ringOf(kind);
        int last = Check.SIZES[kind] - 1;
        check.due("first of 0", ring.value(0, 0), 0);
        check.due("last of 0", ring.value(15, last), 0);
        // The last point is 1 by z, so that x^(N - 1), which is -1 by x, is -z there.
        ring.set(0, last, 1);
        int z = Check.LEAST_Z[kind];
        int inverse = Check.numberPower(kind, z, 2 * Check.SIZES[kind] - 1);
        check.due("x^(N - 1) at the last point", ring.value(0, last), Check.MODULI[kind] - z);
        check.due("x^(N - 1) at the first point", ring.value(0, 0), Check.MODULI[kind] - inverse);
    }

    private static void valueChangesNothing(int kind) {
        ValueRing ring = Check.ringWithElements(kind);
        check.changesNothing(ring, () -> {
            for (int i = 0; i < Check.SIZES[kind]; i++) {
                check.due("asked", ring.value(Check.UNIT, i), i + 1);
            }
        });
    }

    private static void valueRefusesWhatThereIsNot(int kind) {
        ValueRing ring = Check.ringWithElements(kind);
        check.changesNothing(ring, () -> {
            for (int r : Check.NO_REGISTERS) {
                check.refused("value(" + r + ", 0)", NoSuchElementException.class, () -> ring.value(r, 0));
            }
            for (int i : Check.noPlaces(kind)) {
                check.refused("value(0, " + i + ")", NoSuchElementException.class, () -> ring.value(0, i));
                check.refused("value(15, " + i + ")", NoSuchElementException.class, () -> ring.value(15, i));
            }
        });
    }
}
