import java.util.NoSuchElementException;

/** Promise 1: a new object. */
public final class NewObjectTest {
    private static final Check check = new Check();

    public static void main(String[] args) {
        check.sentence("Promise 1", "KIND 0.", NewObjectTest::isOfKindZero);
        check.sentence("Promise 1", "KIND 0.", NewObjectTest::reckonsAsKindZero);
        check.sentence("Terms", "REGISTERS 0 .. 15 hold an ELEMENT each, 0 at first.", NewObjectTest::holdsNothing);
        check.sentence("Promise 1", "A new object", NewObjectTest::hasNothingInCommonWithOthers);
        check.end();
    }

    private static void isOfKindZero() {
        ValueRing ring = new ValueRing();
        check.due("count(0)", ring.count(0), 0);
        check.due("count(1)", ring.count(1), 4);
        check.due("count(2)", ring.count(2), 17);
        check.due("count(3)", ring.count(3), 2);
        check.due("count(4)", ring.count(4), 0);
    }

    private static void reckonsAsKindZero() {
        ValueRing ring = new ValueRing();
        ring.set(5, 1, 1);
        check.valuesDue("x without begin", ring, 5, 2, 8, 15, 9);
        check.due("set of 16", ring.set(0, 3, 16), 0);
        check.due("set of 17", ring.set(0, 3, 17), 16);
        check.due("after 17", ring.get(0, 3), 0);
        check.refused("get(0, 4)", NoSuchElementException.class, () -> ring.get(0, 4));
    }

    private static void holdsNothing() {
        ValueRing ring = new ValueRing();
        for (int r = 0; r < Check.REGISTERS; r++) {
            check.coefficientsDue("new", ring, r, 0, 0, 0, 0);
            check.valuesDue("new", ring, r, 0, 0, 0, 0);
        }
    }

    private static void hasNothingInCommonWithOthers() {
        ValueRing ring = new ValueRing();
        ring.set(5, 1, 1);
        ValueRing other = new ValueRing();
        check.valuesDue("an object beside one that was used", other, 5, 0, 0, 0, 0);
        other.begin(3);
        check.due("count(0) of the first", ring.count(0), 0);
        check.valuesDue("the first after the other's begin", ring, 5, 2, 8, 15, 9);
        check.due("count(0) of a third", new ValueRing().count(0), 0);
    }
}
