import java.util.function.IntConsumer;
import java.util.function.LongSupplier;

/** What the tests of the project share: it compares answers and exceptions with those that are due. */
final class Check {
    static final int REGISTERS = 16;
    static final int[] SIZES = {4, 8, 16, 32};
    static final int[] MODULI = {17, 17, 97, 193};
    static final int[] LEAST_Z = {2, 3, 19, 11};
    /** The nearest registers that there are not, and the farthest. */
    static final int[] NO_REGISTERS = {-1, 16, 17, Integer.MIN_VALUE, Integer.MAX_VALUE};

    /** The registers that ringWithElements fills: a unit that is no square, a square that is no unit, a unit. */
    static final int UNIT = 0;
    static final int NO_UNIT = 1;
    static final int LAST = 15;

    /** Sentences of the document's "Terms" that more than one test holds. */
    static final String NO_SUCH =
        "NoSuchElementException, first: a REGISTER, or a place 0 .. N - 1, that there is not (so for all)";
    static final String MADE_OF = "The REGISTER that becomes something may be one of those that it is made of.";

    private String sentence = "";
    private int right = 0;
    private int wrong = 0;

    /** The test of one sentence of the document: what goes wrong in it is told with the sentence's place and words. */
    void sentence(String where, String words, Runnable test) {
        int before = right + wrong;
        sentence = where + ", \"" + words + "\": ";
        try {
            test.run();
        } catch (RuntimeException e) {
            note(false, "a call came to " + e);
        }
        if (right + wrong == before) {
            note(false, "nothing was compared");
        }
        sentence = "";
    }

    /** As above, for each kind by itself. */
    void sentenceForKinds(String where, String words, IntConsumer test) {
        for (int kind = 0; kind < SIZES.length; kind++) {
            int tested = kind;
            sentence("kind " + kind + ", " + where, words, () -> test.accept(tested));
        }
    }

    void due(String call, long got, long want) {
        note(got == want, call + " answered " + got + ", due is " + want);
    }

    void due(String call, boolean got, boolean want) {
        note(got == want, call + " answered " + got + ", due is " + want);
    }

    void refused(String call, Class<? extends RuntimeException> want, LongSupplier made) {
        String got = outcome(made);
        note(got.equals(want.getSimpleName()), call + " came to " + got + ", due is " + want.getSimpleName());
    }

    /** What the calls leave behind must be what was there before them. */
    void changesNothing(ValueRing ring, Runnable calls) {
        String before = state(ring);
        calls.run();
        String after = state(ring);
        note(after.equals(before), "the calls changed " + before + " to " + after);
    }

    void note(boolean good, String fault) {
        if (good) {
            right++;
        } else {
            wrong++;
            System.out.println(sentence + fault);
        }
    }

    /** The answer as a text, or the name of what was thrown. */
    static String outcome(LongSupplier made) {
        try {
            return Long.toString(made.getAsLong());
        } catch (RuntimeException e) {
            return e.getClass().getSimpleName();
        }
    }

    /** All that an object holds, as a text. It takes 21 calls and one more for each coefficient up to the degrees. */
    static String state(ValueRing ring) {
        StringBuilder text = new StringBuilder();
        for (int what = 0; what < 5; what++) {
            text.append(ring.count(what)).append(' ');
        }
        for (int r = 0; r < REGISTERS; r++) {
            text.append('|');
            int degree = ring.about(r, 4);
            for (int i = 0; i <= degree; i++) {
                text.append(' ').append(ring.get(r, i));
            }
        }
        return text.toString();
    }

    /** No place of the kind: the nearest ones, some that larger kinds have, and the farthest ones. */
    static int[] noPlaces(int kind) {
        int size = SIZES[kind];
        return new int[] {-1, -size, size, size + 1, 2 * size - 1, 2 * size, Integer.MIN_VALUE, Integer.MAX_VALUE};
    }

    /** Numbers on both sides of 0, of T and of their negatives, and the farthest ones. */
    static int[] numbersAtTheEdges(int kind) {
        int modulus = MODULI[kind];
        return new int[] {0, 1, modulus - 1, modulus, modulus + 1, 2 * modulus - 1, 2 * modulus, -1, 1 - modulus,
            -modulus, -modulus - 1, 1000003, -1000003, Integer.MAX_VALUE, Integer.MAX_VALUE - 1, Integer.MIN_VALUE,
            Integer.MIN_VALUE + 1};
    }

    static int reduced(int kind, long number) {
        return (int) ((number % MODULI[kind] + MODULI[kind]) % MODULI[kind]);
    }

    static int numberPower(int kind, int number, int exponent) {
        int result = 1;
        for (int i = 0; i < exponent; i++) {
            result = result * number % MODULI[kind];
        }
        return result;
    }

    static ValueRing ringOf(int kind) {
        ValueRing ring = new ValueRing();
        ring.begin(kind);
        return ring;
    }

    /** A ring with something in registers UNIT, NO_UNIT and LAST; it has had 3 N + 1 calls. */
    static ValueRing ringWithElements(int kind) {
        ValueRing ring = ringOf(kind);
        int size = SIZES[kind];
        for (int i = 0; i < size; i++) {
            ring.setValue(UNIT, i, i + 1);
            ring.setValue(NO_UNIT, i, i == size - 1 ? 0 : (i + 1) * (i + 1));
            ring.setValue(LAST, i, -1 - i);
        }
        return ring;
    }

    static void setAll(ValueRing ring, int r, int... coefficients) {
        for (int i = 0; i < coefficients.length; i++) {
            ring.set(r, i, coefficients[i]);
        }
    }

    static void setAllValues(ValueRing ring, int r, int... values) {
        for (int i = 0; i < values.length; i++) {
            ring.setValue(r, i, values[i]);
        }
    }

    /** All VALUES of register r become v: it is the number v. */
    static void setEachValue(ValueRing ring, int kind, int r, int v) {
        for (int i = 0; i < SIZES[kind]; i++) {
            ring.setValue(r, i, v);
        }
    }

    void coefficientsDue(String when, ValueRing ring, int r, int... want) {
        for (int i = 0; i < want.length; i++) {
            due(when + ": get(" + r + ", " + i + ")", ring.get(r, i), want[i]);
        }
    }

    void valuesDue(String when, ValueRing ring, int r, int... want) {
        for (int i = 0; i < want.length; i++) {
            due(when + ": value(" + r + ", " + i + ")", ring.value(r, i), want[i]);
        }
    }

    /** Register r is the number v and nothing more. */
    void numberDue(String when, ValueRing ring, int r, int v) {
        due(when + ": get(" + r + ", 0)", ring.get(r, 0), v);
        due(when + ": degree", ring.about(r, 4), v == 0 ? -1 : 0);
    }

    void end() {
        System.out.println(right + " answers as due, " + wrong + " not");
        if (wrong > 0 || right == 0) {
            System.exit(1);
        }
    }
}
