/** Promise 15: count. */
public final class CountTest {
    private static final Check check = new Check();

    public static void main(String[] args) {
        int[] leastZ = {2, 3, 19, 11};
        for (int kind = 0; kind < 4; kind++) {
            ValueRing ring = Check.ringOf(kind);
            check.due("count(0)", ring.count(0), kind);
            check.due("count(1)", ring.count(1), Check.SIZES[kind]);
            check.due("count(2)", ring.count(2), Check.MODULI[kind]);
            check.due("count(3)", ring.count(3), leastZ[kind]);
            unitsComeAndGo(kind);
            for (int what : new int[] {-1, 5, 6, Integer.MIN_VALUE, Integer.MAX_VALUE}) {
                check.due("count(" + what + ")", ring.count(what), -1);
            }
        }
        check.end();
    }

    private static void unitsComeAndGo(int kind) {
        ValueRing ring = Check.ringOf(kind);
        check.due("units at first", ring.count(4), 0);
        for (int r = 0; r < Check.REGISTERS; r++) {
            ring.set(r, 1, r + 1);
            check.due("kind " + kind + ": units up", ring.count(4), r + 1);
        }
        for (int r = 0; r < Check.REGISTERS; r++) {
            // One with a 0 among its VALUES is none, wherever the 0 is.
            ring.setValue(r, r % Check.SIZES[kind], 0);
            check.due("kind " + kind + ": units down", ring.count(4), 15 - r);
        }
    }
}
