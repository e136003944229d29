import java.util.List;
import java.util.NoSuchElementException;
import java.util.function.ToLongFunction;

/** "What it is": an object's 512 calls, of which the last one is as good as the first. */
public final class CallsTest {
    private static final int CALLS = 512;

    /** Calls that answer the same however often they are made. */
    private static final List<ToLongFunction<ValueRing>> SAME_AGAIN = List.of(
        ring -> ring.set(7, 1, 0),
        ring -> ring.get(Check.UNIT, 1),
        ring -> ring.setValue(7, 1, 0),
        ring -> ring.value(Check.UNIT, 1),
        ring -> ring.join(7, 3, Check.NO_UNIT, Check.UNIT),
        ring -> ring.turn(7, Check.UNIT, Integer.MIN_VALUE + 1),
        ring -> ring.power(7, Check.UNIT, Integer.MIN_VALUE),
        ring -> ring.root(7, Check.NO_UNIT),
        ring -> ring.order(Check.UNIT),
        ring -> ring.about(Check.UNIT, 5),
        ring -> ring.same(Check.UNIT, Check.LAST) ? 1 : 0,
        ring -> ring.divides(Check.NO_UNIT, Check.UNIT) ? 1 : 0,
        ring -> ring.count(4));

    private static final Check check = new Check();

    public static void main(String[] args) {
        String words = "An object is used for at most 512 calls after it has been made";
        check.sentenceForKinds("What it is", words, CallsTest::theSameCallUpToTheLast);
        check.sentenceForKinds("What it is", words, CallsTest::refusedCallsUpToTheLast);
        check.sentenceForKinds("What it is", words, CallsTest::changesUpToTheLast);
        check.sentence("What it is", words, CallsTest::beginUpToTheLast);
        check.end();
    }

    private static void theSameCallUpToTheLast(int kind) {
        for (int method = 0; method < SAME_AGAIN.size(); method++) {
            ValueRing ring = Check.ringWithElements(kind);
            long want = SAME_AGAIN.get(method).applyAsLong(ring);
            for (int made = 3 * Check.SIZES[kind] + 2; made < CALLS; made++) {
                long got = SAME_AGAIN.get(method).applyAsLong(ring);
                check.due("method " + method + " after " + made + " calls", got, want);
            }
        }
    }

    private static void refusedCallsUpToTheLast(int kind) {
        ValueRing ring = Check.ringOf(kind);
        ring.set(0, 0, 5);
        for (int made = 2; made < CALLS - 1; made++) {
            check.refused("after " + made + " calls, get(16, 0)", NoSuchElementException.class, () -> ring.get(16, 0));
        }
        check.due("call 512", ring.get(0, 0), 5);
    }

    private static void changesUpToTheLast(int kind) {
        ValueRing ring = Check.ringOf(kind);
        int last = Check.SIZES[kind] - 1;
        int before = 0;
        for (int made = 1; made < CALLS; made++) {
            check.due("after " + made + " calls, set", ring.set(15, last, made), before);
            before = made % Check.MODULI[kind];
        }
    }

    private static void beginUpToTheLast() {
        ValueRing ring = new ValueRing();
        for (int made = 0; made < CALLS; made++) {
            check.due("after " + made + " calls, begin", ring.begin(made % 4), Check.LEAST_Z[made % 4]);
        }
    }
}
