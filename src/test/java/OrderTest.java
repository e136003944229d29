import java.util.NoSuchElementException;

/** Promise 11: order. */
public final class OrderTest {
    private static final Check check = new Check();

    public static void main(String[] args) {
        for (int kind = 0; kind < 4; kind++) {
            everyNumber(kind);
            known(kind);
        }
        valuesOfDifferentOrders();
        refusals();
        check.end();
    }

    private static void everyNumber(int kind) {
        int modulus = Check.MODULI[kind];
        for (int number = 1; number < modulus; number++) {
            ValueRing ring = Check.ringOf(kind);
            ring.set(0, 0, number);
            int want = 1;
            for (int power = number; power != 1; power = power * number % modulus) {
                want++;
            }
            check.due("kind " + kind + ": order of " + number, ring.order(0), want);
        }
    }

    private static void known(int kind) {
        ValueRing ring = Check.ringOf(kind);
        check.due("order of 0", ring.order(0), 0);
        ring.set(0, 0, 1);
        check.due("order of 1", ring.order(0), 1);
        ring.set(1, 1, 1);
        check.due("order of x", ring.order(1), 2 * Check.SIZES[kind]);
        ring.setValue(1, Check.SIZES[kind] - 1, 0);
        check.due("order of one with a value 0", ring.order(1), 0);
        ring.setValue(0, Check.SIZES[kind] - 1, Check.MODULI[kind] - 1);
        check.due("order of one with 1 and -1", ring.order(0), 2);
    }

    private static void valuesOfDifferentOrders() {
        ValueRing ring = Check.ringOf(2);
        ring.set(0, 0, 1);
        // 35 is of order 3 modulo 97, 22 of order 4.
        ring.setValue(0, 3, 35);
        check.due("order 3", ring.order(0), 3);
        ring.setValue(0, 15, 22);
        check.due("orders 3 and 4", ring.order(0), 12);
        ring.setValue(0, 0, 5);
        check.due("a value of full order", ring.order(0), 96);
    }

    private static void refusals() {
        ValueRing ring = new ValueRing();
        for (int r : Check.NO_REGISTERS) {
            check.refused("order(" + r + ")", NoSuchElementException.class, () -> ring.order(r));
        }
    }
}
