import java.util.NoSuchElementException;

/** Promise 11: order. */
public final class OrderTest {
    private static final Check check = new Check();

    public static void main(String[] args) {
        String words = "The least n from 1 on with a^n 1; 0: a is no UNIT.";
        check.sentenceForKinds("Promise 11", words, OrderTest::everyNumber);
        check.sentenceForKinds("Promise 11", words, OrderTest::theSmallestAndTheLargest);
        check.sentenceForKinds("Promise 11", words, OrderTest::oneValueDecides);
        check.sentence("Promise 11", words, OrderTest::valuesOfDifferentOrders);
        check.sentenceForKinds("Promise 11", "0: a is no UNIT.", OrderTest::noUnits);
        check.sentenceForKinds("Promise 11", words, OrderTest::orderChangesNothing);
        check.sentenceForKinds("Terms and promise 11", Check.NO_SUCH, OrderTest::refusesRegistersThatThereAreNot);
        check.end();
    }

    private static int orderOf(int kind, int number) {
        int order = 1;
        for (int power = number; power != 1; power = power * number % Check.MODULI[kind]) {
            order++;
        }
        return order;
    }

    private static int numberOfFullOrder(int kind) {
        int number = 2;
        while (orderOf(kind, number) < Check.MODULI[kind] - 1) {
            number++;
        }
        return number;
    }

    private static void everyNumber(int kind) {
        for (int number = 1; number < Check.MODULI[kind]; number++) {
            ValueRing ring = Check.ringOf(kind);
            ring.set(0, 0, number);
            check.due("order of " + number, ring.order(0), orderOf(kind, number));
        }
    }

    private static void theSmallestAndTheLargest(int kind) {
        ValueRing ring = Check.ringOf(kind);
        ring.set(0, 0, 1);
        check.due("order of 1", ring.order(0), 1);
        ring.set(0, 0, -1);
        check.due("order of -1", ring.order(0), 2);
        ring.set(0, 0, numberOfFullOrder(kind));
        check.due("the largest order", ring.order(0), Check.MODULI[kind] - 1);
        ring.set(1, 1, 1);
        check.due("order of x", ring.order(1), 2 * Check.SIZES[kind]);
    }

    private static void oneValueDecides(int kind) {
        int generator = numberOfFullOrder(kind);
        for (int i = 0; i < Check.SIZES[kind]; i++) {
            ValueRing ring = Check.ringOf(kind);
            ring.set(0, 0, 1);
            ring.setValue(0, i, -1);
            check.due("1 but for -1 in place " + i, ring.order(0), 2);
            ring.setValue(0, i, generator);
            check.due("1 but for a generator in place " + i, ring.order(0), Check.MODULI[kind] - 1);
            ring.setValue(0, i, 0);
            check.due("1 but for 0 in place " + i, ring.order(0), 0);
        }
    }

    private static void valuesOfDifferentOrders() {
        ValueRing ring = Check.ringOf(2);
        ring.set(0, 0, 1);
        // 35 is of order 3 modulo 97, 22 of order 4.
        ring.setValue(0, 3, 35);
        check.due("order 3", ring.order(0), 3);
        ring.setValue(0, 15, 22);
        check.due("orders 3 and 4", ring.order(0), 12);
        ring.setValue(0, 0, 5);
        check.due("a value of full order", ring.order(0), 96);
    }

    private static void noUnits(int kind) {
        ValueRing ring = Check.ringWithElements(kind);
        check.due("order of 0", ring.order(9), 0);
        check.due("order of what has a VALUE 0", ring.order(Check.NO_UNIT), 0);
        ring.set(3, 1, 1);
        for (int i = 0; i < Check.SIZES[kind]; i++) {
            int before = ring.setValue(3, i, 0);
            check.due("order where VALUE " + i + " is 0", ring.order(3), 0);
            ring.setValue(3, i, before);
        }
        check.due("order of x again", ring.order(3), 2 * Check.SIZES[kind]);
    }

    private static void orderChangesNothing(int kind) {
        ValueRing ring = Check.ringWithElements(kind);
        check.changesNothing(ring, () -> {
            for (int r = 0; r < Check.REGISTERS; r++) {
                check.due("asked twice", ring.order(r), ring.order(r));
            }
        });
    }

    private static void refusesRegistersThatThereAreNot(int kind) {
        ValueRing ring = Check.ringWithElements(kind);
        check.changesNothing(ring, () -> {
            for (int r : Check.NO_REGISTERS) {
                check.refused("order(" + r + ")", NoSuchElementException.class, () -> ring.order(r));
            }
        });
        check.due("register 15", ring.order(15) > 0, true);
    }
}
