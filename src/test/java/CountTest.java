/** Promise 15: count. */
public final class CountTest {
    private static final Check check = new Check();

    public static void main(String[] args) {
        check.sentenceForKinds("Promise 15", "0 KIND; 1 N; 2 T; 3 z; 4 UNITS among the REGISTERS.",
            CountTest::kindSizeModulusAndZ);
        check.sentenceForKinds("Promise 15", "4 UNITS among the REGISTERS.", CountTest::unitsComeAndGo);
        check.sentenceForKinds("Promise 15", "4 UNITS among the REGISTERS.", CountTest::sameElementsCountEach);
        check.sentenceForKinds("Promise 15", "Else -1.", CountTest::nothingElse);
        check.end();
    }

    private static void kindSizeModulusAndZ(int kind) {
        ValueRing ring = Check.ringOf(kind);
        check.due("count(0)", ring.count(0), kind);
        check.due("count(1)", ring.count(1), Check.SIZES[kind]);
        check.due("count(2)", ring.count(2), Check.MODULI[kind]);
        check.due("count(3)", ring.count(3), Check.LEAST_Z[kind]);
        check.due("count(4)", ring.count(4), 0);
    }

    private static void unitsComeAndGo(int kind) {
        ValueRing ring = Check.ringOf(kind);
        check.due("units at first", ring.count(4), 0);
        for (int r = 0; r < Check.REGISTERS; r++) {
            ring.set(r, 1, r + 1);
            check.due("units up", ring.count(4), r + 1);
        }
        for (int r = 0; r < Check.REGISTERS; r++) {
            // One with a 0 among its VALUES is none, wherever the 0 is.
            ring.setValue(r, r % Check.SIZES[kind], 0);
            check.due("units down", ring.count(4), 15 - r);
        }
    }

    private static void sameElementsCountEach(int kind) {
        ValueRing ring = Check.ringOf(kind);
        for (int r = 0; r < Check.REGISTERS; r++) {
            ring.power(r, r, 0);
        }
        check.due("16 times 1", ring.count(4), 16);
        ring.setValue(15, Check.SIZES[kind] - 1, 0);
        check.due("15 times 1", ring.count(4), 15);
        ring.setValue(0, 0, 0);
        check.due("14 times 1", ring.count(4), 14);
    }

    private static void nothingElse(int kind) {
        ValueRing ring = Check.ringWithElements(kind);
        check.changesNothing(ring, () -> {
            for (int what : new int[] {-1, 5, 6, -2, Integer.MIN_VALUE, Integer.MAX_VALUE}) {
                check.due("count(" + what + ")", ring.count(what), -1);
            }
        });
    }
}
