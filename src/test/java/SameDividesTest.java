import java.util.NoSuchElementException;

/** Promises 13 and 14: same and divides. */
public final class SameDividesTest {
    private static final Check check = new Check();

    public static void main(String[] args) {
        for (int kind = 0; kind < 4; kind++) {
            sameInEveryPlace(kind);
            dividesInEveryPlace(kind);
        }
        knownDivisions();
        refusals();
        check.end();
    }

    private static void sameInEveryPlace(int kind) {
        ValueRing ring = Check.ringOf(kind);
        check.due("0 and 0", ring.same(0, 15), true);
        for (int i = 0; i < Check.SIZES[kind]; i++) {
            ring.setValue(0, i, i + 1);
            check.due("kind " + kind + ": one changed at " + i, ring.same(0, 15), false);
            check.due("the other way round", ring.same(15, 0), false);
            ring.setValue(15, i, i + 1);
            check.due("kind " + kind + ": both changed at " + i, ring.same(0, 15), true);
        }
        check.due("one and itself", ring.same(0, 0), true);
        ring.set(0, Check.SIZES[kind] - 1, 1);
        ring.set(15, Check.SIZES[kind] - 1, 2);
        check.due("another last coefficient", ring.same(0, 15), false);
    }

    private static void dividesInEveryPlace(int kind) {
        ValueRing ring = Check.ringOf(kind);
        ring.set(0, 0, 5);
        ring.set(1, 0, 3);
        for (int i = 0; i < Check.SIZES[kind]; i++) {
            ring.setValue(1, i, 0);
            check.due("kind " + kind + ": b is 0 at " + i, ring.divides(0, 1), false);
            check.due("a is 0 at " + i, ring.divides(1, 0), true);
            ring.setValue(1, i, 3);
        }
        check.due("b is a unit", ring.divides(0, 1), true);
    }

    private static void knownDivisions() {
        ValueRing ring = new ValueRing();
        Check.setAllValues(ring, 0, 0, 4, 0, 1);
        Check.setAllValues(ring, 1, 0, 2, 5, 1);
        check.due("a 0 in fewer places", ring.divides(0, 1), true);
        check.due("a 0 in more places", ring.divides(1, 0), false);
        check.due("0 by 0", ring.divides(7, 7), true);
        check.due("0 by any", ring.divides(7, 0), true);
        check.due("any by 0", ring.divides(0, 7), false);
        check.due("one by itself", ring.divides(0, 0), true);
        ring.join(2, 2, 0, 1);
        check.due("a product by a factor", ring.divides(2, 0), true);
        check.valuesDue("after the calls", ring, 0, 0, 4, 0, 1);
        check.valuesDue("after the calls", ring, 1, 0, 2, 5, 1);
    }

    private static void refusals() {
        ValueRing ring = new ValueRing();
        for (int r : Check.NO_REGISTERS) {
            check.refused("same(r, 0)", NoSuchElementException.class, () -> ring.same(r, 0) ? 1 : 0);
            check.refused("same(0, r)", NoSuchElementException.class, () -> ring.same(0, r) ? 1 : 0);
            check.refused("same(r, r)", NoSuchElementException.class, () -> ring.same(r, r) ? 1 : 0);
            check.refused("divides(r, 0)", NoSuchElementException.class, () -> ring.divides(r, 0) ? 1 : 0);
            check.refused("divides(0, r)", NoSuchElementException.class, () -> ring.divides(0, r) ? 1 : 0);
            check.refused("divides(r, r)", NoSuchElementException.class, () -> ring.divides(r, r) ? 1 : 0);
        }
    }
}
