/** Promises 3 and 4: set and get. */
public final class SetGetTest {
    private static final Check check = new Check();

    public static void main(String[] args) {
        for (int kind = 0; kind < 4; kind++) {
            everyPlaceKeepsItsOwn(kind);
            takesNumbersModuloT(kind);
            refusesWhatThereIsNot(kind);
        }
        everyRegisterKeepsItsOwn();
        check.end();
    }

    private static void everyPlaceKeepsItsOwn(int kind) {
        ValueRing ring = Check.ringOf(kind);
        int size = Check.SIZES[kind];
        for (int i = 0; i < size; i++) {
            check.due("first set", ring.set(0, i, 3 * i + 1), 0);
        }
        for (int i = 0; i < size; i++) {
            int want = (3 * i + 1) % Check.MODULI[kind];
            check.due("kind " + kind + ": get(0, " + i + ")", ring.get(0, i), want);
            check.due("kind " + kind + ": set(0, " + i + ", 2)", ring.set(0, i, 2), want);
            check.due("kind " + kind + ": get after", ring.get(0, i), 2);
        }
        check.due("degree", ring.about(0, 4), size - 1);
    }

    private static void takesNumbersModuloT(int kind) {
        ValueRing ring = Check.ringOf(kind);
        int last = Check.SIZES[kind] - 1;
        int before = 0;
        for (int v : Check.numbersBeyond(kind)) {
            int want = Check.reduced(kind, v);
            check.due("kind " + kind + ": set(1, " + last + ", " + v + ")", ring.set(1, last, v), before);
            check.due("get after set of " + v, ring.get(1, last), want);
            before = want;
        }
    }

    private static void everyRegisterKeepsItsOwn() {
        ValueRing ring = new ValueRing();
        for (int r = 0; r < Check.REGISTERS; r++) {
            ring.set(r, 2, r + 1);
        }
        for (int r = 0; r < Check.REGISTERS; r++) {
            check.coefficientsDue("registers", ring, r, 0, 0, r + 1, 0);
        }
    }

    private static void refusesWhatThereIsNot(int kind) {
        ValueRing ring = Check.ringOf(kind);
        ring.set(0, 0, 7);
        for (int r : Check.NO_REGISTERS) {
            check.refused("set(" + r + ", 0, 1)", java.util.NoSuchElementException.class, () -> ring.set(r, 0, 1));
            check.refused("get(" + r + ", 0)", java.util.NoSuchElementException.class, () -> ring.get(r, 0));
        }
        for (int i : Check.noPlaces(kind)) {
            check.refused("set(0, " + i + ", 1)", java.util.NoSuchElementException.class, () -> ring.set(0, i, 1));
            check.refused("get(0, " + i + ")", java.util.NoSuchElementException.class, () -> ring.get(0, i));
        }
        check.due("zeros after refusals", ring.about(0, 2), 0);
        check.due("get after refusals", ring.get(0, 0), 7);
        check.due("degree after refusals", ring.about(0, 4), 0);
    }
}
