import java.util.NoSuchElementException;

/** Promises 3 and 4: set and get. */
public final class SetGetTest {
    private static final Check check = new Check();

    public static void main(String[] args) {
        String set = "Coefficient i becomes v (modulo T, 0 .. T - 1): what it was.";
        check.sentenceForKinds("Promise 3", set, SetGetTest::everyPlaceKeepsItsOwn);
        check.sentenceForKinds("Promise 3", set, SetGetTest::takesNumbersModuloT);
        check.sentenceForKinds("Promise 3", set, SetGetTest::theOtherCoefficientsStay);
        check.sentence("Promise 3", set, SetGetTest::theOtherRegistersStay);
        check.sentenceForKinds("Terms and promise 3", Check.NO_SUCH, SetGetTest::setRefusesWhatThereIsNot);
        check.sentenceForKinds("Promise 4", "Coefficient i.", SetGetTest::getAnswersTheFirstAndTheLast);
        check.sentenceForKinds("Promise 4", "Coefficient i.", SetGetTest::getAnswersNumbersBelowT);
        check.sentenceForKinds("Promise 4", "Coefficient i.", SetGetTest::getChangesNothing);
        check.sentenceForKinds("Terms and promise 4", Check.NO_SUCH, SetGetTest::getRefusesWhatThereIsNot);
        check.end();
    }

    private static void everyPlaceKeepsItsOwn(int kind) {
        ValueRing ring = Check.ringOf(kind);
        int size = Check.SIZES[kind];
        for (int i = 0; i < size; i++) {
            check.due("first set", ring.set(0, i, 3 * i + 1), 0);
        }
        for (int i = 0; i < size; i++) {
            int want = (3 * i + 1) % Check.MODULI[kind];
            check.due("get(0, " + i + ")", ring.get(0, i), want);
            check.due("set(0, " + i + ", 2)", ring.set(0, i, 2), want);
            check.due("get after", ring.get(0, i), 2);
        }
        check.due("degree", ring.about(0, 4), size - 1);
    }

    private static void takesNumbersModuloT(int kind) {
        ValueRing ring = Check.ringOf(kind);
        for (int i : new int[] {0, Check.SIZES[kind] - 1}) {
            int before = 0;
            for (int v : Check.numbersAtTheEdges(kind)) {
                int want = Check.reduced(kind, v);
                check.due("set(1, " + i + ", " + v + ")", ring.set(1, i, v), before);
                check.due("get after set of " + v, ring.get(1, i), want);
                check.due("set of " + v + " once more", ring.set(1, i, v), want);
                before = want;
            }
        }
    }

    private static void theOtherCoefficientsStay(int kind) {
        int size = Check.SIZES[kind];
        for (int i : new int[] {0, 1, size - 1}) {
            ValueRing ring = Check.ringWithElements(kind);
            int[] want = new int[size];
            for (int k = 0; k < size; k++) {
                want[k] = ring.get(Check.UNIT, k);
            }
            ring.set(Check.UNIT, i, Integer.MIN_VALUE);
            want[i] = Check.reduced(kind, Integer.MIN_VALUE);
            check.coefficientsDue("after set in place " + i, ring, Check.UNIT, want);
            // What it is at the points follows the coefficients.
            for (int k = 0; k < size; k++) {
                int point = Check.numberPower(kind, Check.LEAST_Z[kind], 2 * k + 1);
                int value = 0;
                for (int c = size - 1; c >= 0; c--) {
                    value = (value * point + want[c]) % Check.MODULI[kind];
                }
                check.due("VALUE " + k + " after set", ring.value(Check.UNIT, k), value);
            }
        }
    }

    private static void theOtherRegistersStay() {
        ValueRing ring = new ValueRing();
        for (int r = 0; r < Check.REGISTERS; r++) {
            ring.set(r, 2, r + 1);
        }
        for (int r = 0; r < Check.REGISTERS; r++) {
            check.coefficientsDue("registers", ring, r, 0, 0, r + 1, 0);
        }
    }

    private static void setRefusesWhatThereIsNot(int kind) {
        ValueRing ring = Check.ringWithElements(kind);
        check.changesNothing(ring, () -> {
            for (int r : Check.NO_REGISTERS) {
                check.refused("set(" + r + ", 0, 1)", NoSuchElementException.class, () -> ring.set(r, 0, 1));
            }
            for (int i : Check.noPlaces(kind)) {
                check.refused("set(0, " + i + ", 1)", NoSuchElementException.class, () -> ring.set(0, i, 1));
                check.refused("set(15, " + i + ", 0)", NoSuchElementException.class, () -> ring.set(15, i, 0));
            }
        });
    }

    private static void getAnswersTheFirstAndTheLast(int kind) {
        int last = Check.SIZES[kind] - 1;
        ValueRing ring = Check.ringOf(kind);
        check.due("first of 0", ring.get(0, 0), 0);
        check.due("last of 0", ring.get(15, last), 0);
        ring.set(0, 0, 5);
        ring.set(15, last, 6);
        check.due("first", ring.get(0, 0), 5);
        check.due("last where the first is set", ring.get(0, last), 0);
        check.due("last", ring.get(15, last), 6);
        check.due("first where the last is set", ring.get(15, 0), 0);
    }

    private static void getAnswersNumbersBelowT(int kind) {
        ValueRing ring = Check.ringOf(kind);
        int size = Check.SIZES[kind];
        int largest = Check.MODULI[kind] - 1;
        // Coefficients that are reckoned from the largest VALUES: -1 in all places, then -x.
        Check.setEachValue(ring, kind, 0, largest);
        check.numberDue("all VALUES T - 1", ring, 0, largest);
        for (int i = 0; i < size; i++) {
            ring.setValue(1, i, -Check.numberPower(kind, Check.LEAST_Z[kind], 2 * i + 1));
        }
        int[] want = new int[size];
        want[1] = largest;
        check.coefficientsDue("-x", ring, 1, want);
    }

    private static void getChangesNothing(int kind) {
        ValueRing ring = Check.ringWithElements(kind);
        check.changesNothing(ring, () -> {
            for (int i = 0; i < Check.SIZES[kind]; i++) {
                check.due("asked twice", ring.get(Check.UNIT, i), ring.get(Check.UNIT, i));
            }
        });
    }

    private static void getRefusesWhatThereIsNot(int kind) {
        ValueRing ring = Check.ringWithElements(kind);
        check.changesNothing(ring, () -> {
            for (int r : Check.NO_REGISTERS) {
                check.refused("get(" + r + ", 0)", NoSuchElementException.class, () -> ring.get(r, 0));
            }
            for (int i : Check.noPlaces(kind)) {
                check.refused("get(0, " + i + ")", NoSuchElementException.class, () -> ring.get(0, i));
                check.refused("get(15, " + i + ")", NoSuchElementException.class, () -> ring.get(15, i));
            }
        });
    }
}
