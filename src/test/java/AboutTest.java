import java.util.NoSuchElementException;

/** Promise 12: about. */
public final class AboutTest {
    private static final Check check = new Check();

    public static void main(String[] args) {
        known();
        for (int kind = 0; kind < 4; kind++) {
            aboutZeroAndOne(kind);
            degrees(kind);
            turnsByThree(kind);
        }
        refusalsInTheirOrder();
        check.end();
    }

    private static void allDue(String of, ValueRing ring, int a, int... want) {
        for (int what = 0; what < want.length; what++) {
            check.due(of + ": about(" + a + ", " + what + ")", ring.about(a, what), want[what]);
        }
    }

    private static void known() {
        ValueRing ring = new ValueRing();
        Check.setAllValues(ring, 0, 3, 5, 3, 16);
        allDue("3 5 3 16", ring, 0, 3 * 5 * 3 * 16 % 17, 27 % 17, 0, 3);
        Check.setAllValues(ring, 1, 0, 5, 0, 16);
        allDue("0 5 0 16", ring, 1, 0, 21 % 17, 2, 3);
        Check.setAllValues(ring, 2, 7, 7, 7, 7);
        allDue("7 7 7 7", ring, 2, 2401 % 17, 28 % 17, 0, 1, 0, 1);
        Check.setAllValues(ring, 3, 1, 2, 3, 4);
        allDue("1 2 3 4", ring, 3, 24 % 17, 10, 0, 4);
        Check.setAllValues(ring, 4, 4, 4, 9, 9);
        allDue("4 4 9 9", ring, 4, 36 * 36 % 17, 26 % 17, 0, 2);
        // x^3 for x exchanges the points 2 and 8, and the points 15 and 9.
        check.due("4 4 9 9 turned", ring.about(4, 5), 1);
        check.due("3 5 3 16 turned", ring.about(0, 5), 2);
    }

    private static void aboutZeroAndOne(int kind) {
        int size = Check.SIZES[kind];
        ValueRing ring = Check.ringOf(kind);
        allDue("0", ring, 0, 0, 0, size, 1, -1, 1);
        ring.set(0, 0, 1);
        allDue("1", ring, 0, 1, size, 0, 1, 0, 1);
        ring.set(1, 1, 1);
        // The points are the roots of x^N + 1: multiplied 1, added 0, and all different.
        allDue("x", ring, 1, 1, 0, 0, size, 1, size / 2);
    }

    private static void degrees(int kind) {
        ValueRing ring = Check.ringOf(kind);
        int size = Check.SIZES[kind];
        for (int i = 0; i < size; i++) {
            ring.set(0, i, 1);
            check.due("kind " + kind + ": degree up", ring.about(0, 4), i);
        }
        for (int i = size - 1; i >= 0; i--) {
            ring.set(0, i, 0);
            check.due("kind " + kind + ": degree down", ring.about(0, 4), i - 1);
        }
    }

    private static void turnsByThree(int kind) {
        int size = Check.SIZES[kind];
        for (int k = 0; k < size; k++) {
            ValueRing ring = Check.ringOf(kind);
            ring.set(0, k, 1);
            int want = 1;
            for (int g = 3; (g * k - k) % (2 * size) != 0; g = g * 3 % (2 * size)) {
                want++;
            }
            check.due("kind " + kind + ": x^" + k + " turned", ring.about(0, 5), want);
        }
    }

    private static void refusalsInTheirOrder() {
        ValueRing ring = new ValueRing();
        for (int what : new int[] {-1, 6, 7, Integer.MIN_VALUE, Integer.MAX_VALUE}) {
            check.refused("about(0, " + what + ")", IllegalArgumentException.class, () -> ring.about(0, what));
            for (int r : Check.NO_REGISTERS) {
                check.refused("about(r, " + what + ")", NoSuchElementException.class, () -> ring.about(r, what));
            }
        }
        for (int what = 0; what < 6; what++) {
            int asked = what;
            for (int r : Check.NO_REGISTERS) {
                check.refused("about(r, " + what + ")", NoSuchElementException.class, () -> ring.about(r, asked));
            }
        }
    }
}
