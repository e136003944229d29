import java.util.function.LongSupplier;

/** What the tests of the project share: it compares answers and exceptions with those that are due. */
final class Check {
    static final int REGISTERS = 16;
    static final int[] SIZES = {4, 8, 16, 32};
    static final int[] MODULI = {17, 17, 97, 193};
    static final int[] NO_REGISTERS = {-1, 16, 17, Integer.MIN_VALUE, Integer.MAX_VALUE};

    private int right = 0;
    private int wrong = 0;

    void due(String call, long got, long want) {
        note(got == want, call + " answered " + got + ", due is " + want);
    }

    void due(String call, boolean got, boolean want) {
        note(got == want, call + " answered " + got + ", due is " + want);
    }

    void refused(String call, Class<? extends RuntimeException> want, LongSupplier made) {
        String got = outcome(made);
        note(got.equals(want.getSimpleName()), call + " came to " + got + ", due is " + want.getSimpleName());
    }

    void note(boolean good, String fault) {
        if (good) {
            right++;
        } else {
            wrong++;
            System.out.println(fault);
        }
    }

    /** The answer as a text, or the name of what was thrown. */
    static String outcome(LongSupplier made) {
        try {
            return Long.toString(made.getAsLong());
        } catch (RuntimeException e) {
            return e.getClass().getSimpleName();
        }
    }

    /** No place of the kind: the nearest ones and the farthest ones. */
    static int[] noPlaces(int kind) {
        return new int[] {-1, SIZES[kind], SIZES[kind] + 1, Integer.MIN_VALUE, Integer.MAX_VALUE};
    }

    /** Numbers on both sides of 0 and of T, and the farthest ones. */
    static int[] numbersBeyond(int kind) {
        int modulus = MODULI[kind];
        return new int[] {-1, modulus, modulus - 1, modulus + 1, -modulus, -modulus - 1, 0, 1000003,
            Integer.MAX_VALUE, Integer.MIN_VALUE};
    }

    static int reduced(int kind, long number) {
        return (int) ((number % MODULI[kind] + MODULI[kind]) % MODULI[kind]);
    }

    static ValueRing ringOf(int kind) {
        ValueRing ring = new ValueRing();
        ring.begin(kind);
        return ring;
    }

    static void setAll(ValueRing ring, int r, int... coefficients) {
        for (int i = 0; i < coefficients.length; i++) {
            ring.set(r, i, coefficients[i]);
        }
    }

    static void setAllValues(ValueRing ring, int r, int... values) {
        for (int i = 0; i < values.length; i++) {
            ring.setValue(r, i, values[i]);
        }
    }

    void coefficientsDue(String when, ValueRing ring, int r, int... want) {
        for (int i = 0; i < want.length; i++) {
            due(when + ": get(" + r + ", " + i + ")", ring.get(r, i), want[i]);
        }
    }

    void valuesDue(String when, ValueRing ring, int r, int... want) {
        for (int i = 0; i < want.length; i++) {
            due(when + ": value(" + r + ", " + i + ")", ring.value(r, i), want[i]);
        }
    }

    void end() {
        System.out.println(right + " answers as due, " + wrong + " not");
        if (wrong > 0 || right == 0) {
            System.exit(1);
        }
    }
}
