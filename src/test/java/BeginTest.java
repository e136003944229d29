/** Promise 2: begin. */
public final class BeginTest {
    private static final Check check = new Check();

    public static void main(String[] args) {
        for (int kind = 0; kind < 4; kind++) {
            answersLeastZ(kind);
            for (int next = 0; next < 4; next++) {
                clearsAllRegisters(kind, next);
            }
        }
        refusesOtherKinds();
        check.end();
    }

    private static void answersLeastZ(int kind) {
        int size = Check.SIZES[kind];
        int modulus = Check.MODULI[kind];
        int want = 2;
        while (plainPower(want, size, modulus) != modulus - 1) {
            want++;
        }
        ValueRing ring = new ValueRing();
        check.due("begin(" + kind + ")", ring.begin(kind), want);
        check.due("count(0)", ring.count(0), kind);
        check.due("count(1)", ring.count(1), size);
        check.due("count(2)", ring.count(2), modulus);
        check.due("count(3)", ring.count(3), want);
    }

    private static int plainPower(int number, int exponent, int modulus) {
        int result = 1;
        for (int i = 0; i < exponent; i++) {
            result = result * number % modulus;
        }
        return result;
    }

    private static void clearsAllRegisters(int kind, int next) {
        ValueRing ring = Check.ringOf(kind);
        for (int r = 0; r < Check.REGISTERS; r++) {
            ring.set(r, Check.SIZES[kind] - 1, r + 1);
        }
        check.due("count(4) before begin", ring.count(4), 16);
        ring.begin(next);
        check.due("count(4) after begin(" + next + ")", ring.count(4), 0);
        for (int r = 0; r < Check.REGISTERS; r++) {
            check.due("zeros of " + r + " after " + kind + ", " + next, ring.about(r, 2), Check.SIZES[next]);
            check.due("degree of " + r + " after " + kind + ", " + next, ring.about(r, 4), -1);
        }
        // A smaller kind between two larger ones must leave nothing behind in the places that it does not use.
        ring.begin(kind);
        check.due("zeros after a return", ring.about(15, 2), Check.SIZES[kind]);
        check.due("get after a return", ring.get(15, Check.SIZES[kind] - 1), 0);
    }

    private static void refusesOtherKinds() {
        ValueRing ring = Check.ringOf(2);
        ring.set(3, 1, 5);
        for (int kind : new int[] {-1, 4, 5, Integer.MIN_VALUE, Integer.MAX_VALUE}) {
            check.refused("begin(" + kind + ")", IllegalArgumentException.class, () -> ring.begin(kind));
            check.due("count(0) after a refusal", ring.count(0), 2);
            check.due("get after a refusal", ring.get(3, 1), 5);
        }
    }
}
