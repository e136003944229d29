import java.util.NoSuchElementException;

/** Promise 10: root. */
public final class RootTest {
    private static final Check check = new Check();

    public static void main(String[] args) {
        for (int kind = 0; kind < 4; kind++) {
            everyNumber(kind);
            counts(kind);
        }
        eachValueByItself();
        theTargetMayBeTheSource();
        refusals();
        check.end();
    }

    private static int leastRoot(int number, int modulus) {
        for (int candidate = 0; candidate < modulus; candidate++) {
            if (candidate * candidate % modulus == number) {
                return candidate;
            }
        }
        return -1;
    }

    private static void everyNumber(int kind) {
        int modulus = Check.MODULI[kind];
        for (int number = 0; number < modulus; number++) {
            ValueRing ring = Check.ringOf(kind);
            ring.set(0, 0, number);
            ring.setValue(1, 1, 9);
            int want = leastRoot(number, modulus);
            if (want < 0) {
                check.refused("root of " + number, IllegalStateException.class, () -> ring.root(1, 0));
                check.due("the target after a refusal", ring.value(1, 1), 9);
                check.due("its other values", ring.value(1, 0), 0);
            } else {
                long many = number == 0 ? 1L : 1L << Check.SIZES[kind];
                check.due("kind " + kind + ": root of " + number, ring.root(1, 0), many);
                check.due("the root of " + number, ring.get(1, 0), want);
                check.due("its degree", ring.about(1, 4), number == 0 ? -1 : 0);
            }
        }
    }

    private static void counts(int kind) {
        ValueRing ring = Check.ringOf(kind);
        check.due("root of 0", ring.root(1, 0), 1);
        for (int i = 0; i < Check.SIZES[kind]; i++) {
            ring.setValue(0, i, 4);
            check.due("kind " + kind + ": roots", ring.root(1, 0), 1L << (i + 1));
            check.due("root's value", ring.value(1, i), 2);
        }
    }

    private static void eachValueByItself() {
        ValueRing ring = new ValueRing();
        Check.setAllValues(ring, 0, 16, 15, 0, 13);
        check.due("root of 16 15 0 13", ring.root(1, 0), 8);
        check.valuesDue("root", ring, 1, 4, 7, 0, 8);
        check.valuesDue("a stays", ring, 0, 16, 15, 0, 13);
        ring.join(2, 2, 1, 1);
        check.due("its square", ring.same(2, 0), true);
    }

    private static void theTargetMayBeTheSource() {
        ValueRing ring = new ValueRing();
        Check.setAllValues(ring, 3, 1, 4, 9, 2);
        check.due("root in place", ring.root(3, 3), 16);
        check.valuesDue("root in place", ring, 3, 1, 2, 3, 6);
    }

    private static void refusals() {
        ValueRing ring = new ValueRing();
        Check.setAllValues(ring, 0, 4, 4, 4, 3);
        Check.setAllValues(ring, 1, 9, 8, 7, 6);
        for (int r : Check.NO_REGISTERS) {
            check.refused("root(r, 0)", NoSuchElementException.class, () -> ring.root(r, 0));
            check.refused("root(0, r)", NoSuchElementException.class, () -> ring.root(0, r));
        }
        check.refused("root(1, 0)", IllegalStateException.class, () -> ring.root(1, 0));
        check.refused("root(0, 0)", IllegalStateException.class, () -> ring.root(0, 0));
        check.valuesDue("after refusals", ring, 0, 4, 4, 4, 3);
        check.valuesDue("after refusals", ring, 1, 9, 8, 7, 6);
    }
}
