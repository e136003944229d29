import java.util.NoSuchElementException;

/** Promises 5 and 6: setValue and value. */
public final class ValueTest {
    private static final Check check = new Check();

    public static void main(String[] args) {
        knownValues();
        for (int kind = 0; kind < 4; kind++) {
            valuesAreWhatItIsAtTheRoots(kind);
            settingOneLeavesTheOthers(kind);
            takesNumbersModuloT(kind);
            refusesWhatThereIsNot(kind);
        }
        check.end();
    }

    private static void knownValues() {
        ValueRing ring = new ValueRing();
        // 1 + 2 x + 3 x^2 + 4 x^3 at 2, 8, 15 and 9, modulo 17.
        Check.setAll(ring, 0, 1, 2, 3, 4);
        check.valuesDue("1 2 3 4", ring, 0, 49 % 17, 2257 % 17, 14206 % 17, 3178 % 17);
        Check.setAllValues(ring, 1, 2, 8, 15, 9);
        check.coefficientsDue("the values of x", ring, 1, 0, 1, 0, 0);
        Check.setAllValues(ring, 2, 5, 5, 5, 5);
        check.coefficientsDue("one value throughout", ring, 2, 5, 0, 0, 0);
    }

    private static void valuesAreWhatItIsAtTheRoots(int kind) {
        ValueRing ring = Check.ringOf(kind);
        int size = Check.SIZES[kind];
        int modulus = Check.MODULI[kind];
        for (int k = 0; k < size; k++) {
            ring.set(4, k, 5 * k * k + 3);
        }
        int point = ring.count(3);
        for (int i = 0; i < size; i++) {
            int want = 0;
            for (int k = size - 1; k >= 0; k--) {
                want = (want * point + 5 * k * k + 3) % modulus;
            }
            check.due("kind " + kind + ": value(4, " + i + ")", ring.value(4, i), want);
            point = point * ring.count(3) * ring.count(3) % modulus;
        }
    }

    private static void settingOneLeavesTheOthers(int kind) {
        ValueRing ring = Check.ringOf(kind);
        int size = Check.SIZES[kind];
        ring.set(0, 1, 1);
        int[] before = new int[size];
        for (int i = 0; i < size; i++) {
            before[i] = ring.value(0, i);
        }
        check.due("setValue's answer", ring.setValue(0, size - 1, 0), before[size - 1]);
        check.due("setValue's next answer", ring.setValue(0, size - 1, 4), 0);
        before[size - 1] = 4;
        check.valuesDue("kind " + kind + " after setValue", ring, 0, before);
        for (int i = 0; i < size; i++) {
            ring.setValue(1, i, ring.value(0, i));
        }
        for (int i = 0; i < size; i++) {
            check.due("the same values, the same coefficients", ring.get(1, i), ring.get(0, i));
        }
    }

    private static void takesNumbersModuloT(int kind) {
        ValueRing ring = Check.ringOf(kind);
        int before = 0;
        for (int v : Check.numbersBeyond(kind)) {
            int want = Check.reduced(kind, v);
            check.due("kind " + kind + ": setValue(1, 1, " + v + ")", ring.setValue(1, 1, v), before);
            check.due("value after setValue of " + v, ring.value(1, 1), want);
            before = want;
        }
    }

    private static void refusesWhatThereIsNot(int kind) {
        ValueRing ring = Check.ringOf(kind);
        ring.set(0, 0, 7);
        for (int r : Check.NO_REGISTERS) {
            check.refused("setValue(" + r + ", 0, 1)", NoSuchElementException.class, () -> ring.setValue(r, 0, 1));
            check.refused("value(" + r + ", 0)", NoSuchElementException.class, () -> ring.value(r, 0));
        }
        for (int i : Check.noPlaces(kind)) {
            check.refused("setValue(0, " + i + ", 1)", NoSuchElementException.class, () -> ring.setValue(0, i, 1));
            check.refused("value(0, " + i + ")", NoSuchElementException.class, () -> ring.value(0, i));
        }
        check.due("different values after refusals", ring.about(0, 3), 1);
        check.due("value after refusals", ring.value(0, 0), 7);
    }
}
