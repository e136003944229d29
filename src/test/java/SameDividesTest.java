import java.util.NoSuchElementException;

/** Promises 13 and 14: same and divides. */
public final class SameDividesTest {
    private static final Check check = new Check();

    public static void main(String[] args) {
        check.sentenceForKinds("Promise 13", "Whether they are the same.", SameDividesTest::sameInEveryPlace);
        check.sentenceForKinds("Promise 13", "Whether they are the same.", SameDividesTest::sameByNumbersModuloT);
        check.sentenceForKinds("Promise 13", "Whether they are the same.", SameDividesTest::sameOfItselfAndOfZeros);
        check.sentenceForKinds("Promise 13", "Whether they are the same.", SameDividesTest::sameChangesNothing);
        check.sentenceForKinds("Terms and promise 13", Check.NO_SUCH,
            SameDividesTest::sameRefusesRegistersThatThereAreNot);
        String divides = "Whether some ELEMENT times b is a.";
        check.sentenceForKinds("Promise 14", divides, SameDividesTest::dividesInEveryPlace);
        check.sentence("Promise 14", divides, SameDividesTest::knownDivisions);
        check.sentenceForKinds("Promise 14", divides, SameDividesTest::dividesOfItselfAndOfZeros);
        check.sentenceForKinds("Promise 14", divides, SameDividesTest::dividesChangesNothing);
        check.sentenceForKinds("Terms and promise 14", Check.NO_SUCH,
            SameDividesTest::dividesRefusesRegistersThatThereAreNot);
        check.end();
    }

    private static void sameInEveryPlace(int kind) {
        ValueRing ring = Check.ringOf(kind);
        for (int i = 0; i < Check.SIZES[kind]; i++) {
            ring.setValue(0, i, i + 1);
            check.due("one changed at " + i, ring.same(0, 15), false);
            check.due("the other way round", ring.same(15, 0), false);
            ring.setValue(15, i, i + 1);
            check.due("both changed at " + i, ring.same(0, 15), true);
        }
        for (int i = 0; i < Check.SIZES[kind]; i++) {
            int before = ring.set(0, i, ring.get(0, i) + 1);
            check.due("another coefficient " + i, ring.same(0, 15), false);
            ring.set(0, i, before);
            check.due("the same coefficient " + i, ring.same(0, 15), true);
        }
    }

    private static void sameByNumbersModuloT(int kind) {
        int modulus = Check.MODULI[kind];
        ValueRing ring = Check.ringOf(kind);
        ring.set(0, 1, -1);
        ring.set(1, 1, modulus - 1);
        check.due("-1 and T - 1", ring.same(0, 1), true);
        ring.set(0, 1, modulus);
        check.due("T and 0", ring.same(0, 9), true);
        ring.setValue(0, 0, 3 * modulus + 5);
        ring.setValue(2, 0, 5);
        check.due("3 T + 5 and 5", ring.same(0, 2), true);
    }

    private static void sameOfItselfAndOfZeros(int kind) {
        ValueRing ring = Check.ringWithElements(kind);
        check.due("0 and 0", ring.same(8, 9), true);
        check.due("0 and itself", ring.same(9, 9), true);
        check.due("a and itself", ring.same(Check.UNIT, Check.UNIT), true);
        check.due("15 and itself", ring.same(Check.LAST, Check.LAST), true);
        check.due("a and 0", ring.same(Check.UNIT, 9), false);
        check.due("0 and a", ring.same(9, Check.UNIT), false);
    }

    private static void sameChangesNothing(int kind) {
        ValueRing ring = Check.ringWithElements(kind);
        check.changesNothing(ring, () -> {
            check.due("a and another", ring.same(Check.UNIT, Check.LAST), false);
            check.due("a and itself", ring.same(Check.UNIT, Check.UNIT), true);
        });
    }

    private static void sameRefusesRegistersThatThereAreNot(int kind) {
        ValueRing ring = Check.ringWithElements(kind);
        check.changesNothing(ring, () -> {
            for (int r : Check.NO_REGISTERS) {
                check.refused("same(r, 0)", NoSuchElementException.class, () -> ring.same(r, 0) ? 1 : 0);
                check.refused("same(0, r)", NoSuchElementException.class, () -> ring.same(0, r) ? 1 : 0);
                check.refused("same(r, r)", NoSuchElementException.class, () -> ring.same(r, r) ? 1 : 0);
            }
        });
    }

    private static void dividesInEveryPlace(int kind) {
        ValueRing ring = Check.ringOf(kind);
        ring.set(0, 0, 5);
        ring.set(1, 0, 3);
        for (int i = 0; i < Check.SIZES[kind]; i++) {
            ring.setValue(1, i, 0);
            check.due("b is 0 at " + i, ring.divides(0, 1), false);
            check.due("a is 0 at " + i, ring.divides(1, 0), true);
            ring.setValue(0, i, 0);
            check.due("both are 0 at " + i, ring.divides(0, 1), true);
            ring.setValue(0, i, 5);
            ring.setValue(1, i, 3);
        }
        check.due("b is a unit", ring.divides(0, 1), true);
    }

    private static void knownDivisions() {
        ValueRing ring = new ValueRing();
        Check.setAllValues(ring, 0, 0, 4, 0, 1);
        Check.setAllValues(ring, 1, 0, 2, 5, 1);
        check.due("a 0 in fewer places", ring.divides(0, 1), true);
        check.due("a 0 in more places", ring.divides(1, 0), false);
        ring.join(2, 2, 0, 1);
        check.due("a product by a factor", ring.divides(2, 0), true);
        check.due("a product by the other factor", ring.divides(2, 1), true);
    }

    private static void dividesOfItselfAndOfZeros(int kind) {
        ValueRing ring = Check.ringWithElements(kind);
        check.due("0 by 0", ring.divides(8, 9), true);
        check.due("0 by itself", ring.divides(9, 9), true);
        check.due("what is no UNIT by itself", ring.divides(Check.NO_UNIT, Check.NO_UNIT), true);
        check.due("a UNIT by itself", ring.divides(Check.UNIT, Check.UNIT), true);
        for (int r : new int[] {Check.UNIT, Check.NO_UNIT, Check.LAST}) {
            check.due("0 by register " + r, ring.divides(9, r), true);
            check.due("register " + r + " by 0", ring.divides(r, 9), false);
            check.due("register " + r + " by a UNIT", ring.divides(r, Check.LAST), true);
        }
        check.due("a UNIT by what is none", ring.divides(Check.UNIT, Check.NO_UNIT), false);
    }

    private static void dividesChangesNothing(int kind) {
        ValueRing ring = Check.ringWithElements(kind);
        check.changesNothing(ring, () -> {
            check.due("a by a UNIT", ring.divides(Check.NO_UNIT, Check.UNIT), true);
            check.due("a by what is no UNIT", ring.divides(Check.UNIT, Check.NO_UNIT), false);
        });
    }

    private static void dividesRefusesRegistersThatThereAreNot(int kind) {
        ValueRing ring = Check.ringWithElements(kind);
        check.changesNothing(ring, () -> {
            for (int r : Check.NO_REGISTERS) {
                check.refused("divides(r, 0)", NoSuchElementException.class, () -> ring.divides(r, 0) ? 1 : 0);
                check.refused("divides(0, r)", NoSuchElementException.class, () -> ring.divides(0, r) ? 1 : 0);
                // These are decided, by a 0 or by a UNIT, before the other register would be needed.
                check.refused("divides(9, r)", NoSuchElementException.class, () -> ring.divides(9, r) ? 1 : 0);
                check.refused("divides(r, 15)", NoSuchElementException.class, () -> ring.divides(r, 15) ? 1 : 0);
                check.refused("divides(r, r)", NoSuchElementException.class, () -> ring.divides(r, r) ? 1 : 0);
            }
        });
    }
}
