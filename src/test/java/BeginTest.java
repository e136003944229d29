import java.util.NoSuchElementException;

/** Promise 2: begin. */
public final class BeginTest {
    private static final Check check = new Check();

    public static void main(String[] args) {
        String words = "Another KIND, all REGISTERS 0: z.";
        check.sentenceForKinds("Promise 2", words, BeginTest::answersLeastZ);
        check.sentenceForKinds("Promise 2", words, BeginTest::clearsAllRegisters);
        check.sentenceForKinds("Promise 2", words, BeginTest::leavesNothingBehindForAReturn);
        check.sentenceForKinds("Promise 2", words, BeginTest::hasThePlacesOfTheNewKind);
        check.sentenceForKinds("Promise 2", words, BeginTest::reckonsAsTheNewKind);
        check.sentenceForKinds("Promise 2", words, BeginTest::theKindItHasIsNotRefused);
        check.sentenceForKinds("Promise 2", "IllegalArgumentException: no such KIND.", BeginTest::refusesOtherKinds);
        check.end();
    }

    private static void answersLeastZ(int kind) {
        for (int before = 0; before < 4; before++) {
            ValueRing ring = Check.ringOf(before);
            check.due("begin", ring.begin(kind), Check.LEAST_Z[kind]);
            check.due("count(0)", ring.count(0), kind);
            check.due("count(1)", ring.count(1), Check.SIZES[kind]);
            check.due("count(2)", ring.count(2), Check.MODULI[kind]);
            check.due("count(3)", ring.count(3), Check.LEAST_Z[kind]);
        }
    }

    private static ValueRing ringThatIsFull(int kind) {
        ValueRing ring = Check.ringOf(kind);
        for (int r = 0; r < Check.REGISTERS; r++) {
            ring.set(r, Check.SIZES[kind] - 1, r + 1);
        }
        return ring;
    }

    private static void clearsAllRegisters(int kind) {
        for (int next = 0; next < 4; next++) {
            ValueRing ring = ringThatIsFull(kind);
            check.due("units before begin", ring.count(4), 16);
            ring.begin(next);
            check.due("units after begin(" + next + ")", ring.count(4), 0);
            for (int r = 0; r < Check.REGISTERS; r++) {
                check.due("VALUES 0 of " + r + " after begin(" + next + ")", ring.about(r, 2), Check.SIZES[next]);
                check.due("degree of " + r + " after begin(" + next + ")", ring.about(r, 4), -1);
            }
        }
    }

    private static void leavesNothingBehindForAReturn(int kind) {
        for (int between = 0; between < 4; between++) {
            ValueRing ring = ringThatIsFull(kind);
            ring.begin(between);
            ring.begin(kind);
            for (int r = 0; r < Check.REGISTERS; r++) {
                check.due("VALUES 0 of " + r + " after a return", ring.about(r, 2), Check.SIZES[kind]);
            }
            check.due("last coefficient after a return", ring.get(15, Check.SIZES[kind] - 1), 0);
            check.due("last VALUE after a return", ring.value(15, Check.SIZES[kind] - 1), 0);
        }
    }

    private static void hasThePlacesOfTheNewKind(int kind) {
        int size = Check.SIZES[kind];
        for (int before = 0; before < 4; before++) {
            ValueRing ring = Check.ringOf(before);
            ring.begin(kind);
            check.due("last place", ring.set(0, size - 1, 1), 0);
            check.due("last VALUE's place", ring.setValue(1, size - 1, 1), 0);
            check.refused("set in place N", NoSuchElementException.class, () -> ring.set(0, size, 1));
            check.refused("get in place N", NoSuchElementException.class, () -> ring.get(0, size));
            check.refused("setValue in place N", NoSuchElementException.class, () -> ring.setValue(0, size, 1));
            check.refused("value in place N", NoSuchElementException.class, () -> ring.value(0, size));
        }
    }

    private static void reckonsAsTheNewKind(int kind) {
        int modulus = Check.MODULI[kind];
        for (int before = 0; before < 4; before++) {
            ValueRing ring = Check.ringOf(before);
            ring.begin(kind);
            ring.set(0, 1, 1);
            check.due("x at z", ring.value(0, 0), Check.LEAST_Z[kind]);
            ring.power(1, 0, Check.SIZES[kind]);
            check.numberDue("x^N", ring, 1, modulus - 1);
            ring.set(2, 0, modulus);
            check.numberDue("T", ring, 2, 0);
        }
    }

    private static void theKindItHasIsNotRefused(int kind) {
        ValueRing ring = ringThatIsFull(kind);
        check.due("begin with the kind it has", ring.begin(kind), Check.LEAST_Z[kind]);
        check.due("count(0)", ring.count(0), kind);
        for (int r = 0; r < Check.REGISTERS; r++) {
            check.numberDue("register " + r, ring, r, 0);
        }
    }

    private static void refusesOtherKinds(int kind) {
        ValueRing ring = Check.ringWithElements(kind);
        check.changesNothing(ring, () -> {
            for (int none : new int[] {-1, 4, 5, Integer.MIN_VALUE, Integer.MAX_VALUE}) {
                check.refused("begin(" + none + ")", IllegalArgumentException.class, () -> ring.begin(none));
            }
        });
    }
}
