/** Promise 1: a new object is of kind 0 with all registers 0. */
public final class NewObjectTest {
    public static void main(String[] args) {
        Check check = new Check();
        ValueRing ring = new ValueRing();
        check.due("count(0)", ring.count(0), 0);
        check.due("count(1)", ring.count(1), 4);
        check.due("count(2)", ring.count(2), 17);
        check.due("count(3)", ring.count(3), 2);
        check.due("count(4)", ring.count(4), 0);
        for (int r = 0; r < Check.REGISTERS; r++) {
            check.coefficientsDue("new", ring, r, 0, 0, 0, 0);
            check.valuesDue("new", ring, r, 0, 0, 0, 0);
        }
        ring.set(5, 1, 1);
        check.valuesDue("x without begin", ring, 5, 2, 8, 15, 9);

        ValueRing other = new ValueRing();
        check.valuesDue("an object beside one that was used", other, 5, 0, 0, 0, 0);
        other.begin(3);
        check.due("count(0) of the first", ring.count(0), 0);
        check.valuesDue("the first after the other's begin", ring, 5, 2, 8, 15, 9);
        check.end();
    }
}
