import java.util.LinkedHashMap;
import java.util.Map;
import java.util.NoSuchElementException;

/** "Terms": the sentences that hold for all calls. */
public final class TermsTest {
    /** A call with one argument left open. */
    private interface OpenCall {
        long made(ValueRing ring, int argument);
    }

    private static final Class<NoSuchElementException> NO_SUCH_ELEMENT = NoSuchElementException.class;

    private static final Check check = new Check();

    public static void main(String[] args) {
        check.sentenceForKinds("Terms", "KIND 0, 1, 2, 3 (0 at first): N 4, 8, 16, 32; T 17, 17, 97, 193",
            TermsTest::sizesAndModuli);
        check.sentenceForKinds("Terms", "numbers 0 .. T - 1, reckoned modulo T", TermsTest::numbersWrapRound);
        check.sentenceForKinds("Terms", "z: the least number from 2 on whose N-th power is -1.", TermsTest::leastZ);
        check.sentenceForKinds("Terms", "ELEMENTS: polynomials with N coefficients, of x^0 first; "
            + "products modulo x^N + 1.", TermsTest::productsWrapRound);
        check.sentenceForKinds("Terms", "VALUE i of one, i 0 .. N - 1: what it is at z^(2 i + 1).",
            TermsTest::pointsOfValues);
        check.sentenceForKinds("Terms", "A UNIT has no VALUE 0.", TermsTest::oneZeroMakesNoUnit);
        check.sentenceForKinds("Terms", "REGISTERS 0 .. 15 hold an ELEMENT each, 0 at first.",
            TermsTest::sixteenRegisters);
        check.sentenceForKinds("Terms", Check.NO_SUCH, TermsTest::registersThatThereAreNot);
        check.sentenceForKinds("Terms", Check.NO_SUCH, TermsTest::placesThatThereAreNot);
        check.sentenceForKinds("Terms", Check.NO_SUCH + "; then IllegalArgumentException.",
            TermsTest::registerBeforeArgument);
        check.sentenceForKinds("Terms", Check.NO_SUCH, TermsTest::registerBeforeState);
        check.sentenceForKinds("Terms", Check.MADE_OF, TermsTest::joinIntoWhatItIsMadeOf);
        check.sentenceForKinds("Terms", Check.MADE_OF, TermsTest::theOthersIntoWhatTheyAreMadeOf);
        check.end();
    }

    private static void sizesAndModuli(int kind) {
        ValueRing ring = Check.ringOf(kind);
        check.due("count(0)", ring.count(0), kind);
        check.due("count(1)", ring.count(1), Check.SIZES[kind]);
        check.due("count(2)", ring.count(2), Check.MODULI[kind]);
        ring.set(0, Check.SIZES[kind] - 1, Check.MODULI[kind] - 1);
        check.due("T - 1 in the last place", ring.get(0, Check.SIZES[kind] - 1), Check.MODULI[kind] - 1);
        check.refused("get(0, N)", NO_SUCH_ELEMENT, () -> ring.get(0, Check.SIZES[kind]));
        ring.set(0, Check.SIZES[kind] - 1, Check.MODULI[kind]);
        check.due("T in the last place", ring.get(0, Check.SIZES[kind] - 1), 0);
    }

    private static void numbersWrapRound(int kind) {
        ValueRing ring = Check.ringOf(kind);
        int largest = Check.MODULI[kind] - 1;
        ring.set(0, 0, largest);
        ring.set(1, 0, 1);
        ring.join(2, 0, 0, 1);
        check.numberDue("T - 1 and 1", ring, 2, 0);
        ring.join(2, 0, 0, 0);
        check.numberDue("T - 1 and T - 1", ring, 2, largest - 1);
        ring.join(2, 1, 9, 1);
        check.numberDue("0 less 1", ring, 2, largest);
        ring.join(2, 1, 9, 0);
        check.numberDue("0 less T - 1", ring, 2, 1);
        ring.join(2, 2, 0, 0);
        check.numberDue("T - 1 times T - 1", ring, 2, 1);
        ring.join(2, 3, 1, 0);
        check.numberDue("1 by T - 1", ring, 2, largest);
    }

    private static void leastZ(int kind) {
        int size = Check.SIZES[kind];
        int minusOne = Check.MODULI[kind] - 1;
        int z = Check.ringOf(kind).count(3);
        check.due("z", z, Check.LEAST_Z[kind]);
        check.due("z^N", Check.numberPower(kind, z, size), minusOne);
        for (int smaller = 2; smaller < z; smaller++) {
            check.due(smaller + "^N is -1", Check.numberPower(kind, smaller, size) == minusOne, false);
        }
    }

    private static void productsWrapRound(int kind) {
        int size = Check.SIZES[kind];
        for (int i = 0; i < size; i++) {
            ValueRing ring = Check.ringOf(kind);
            ring.set(0, i, 1);
            ring.set(1, size - 1, 1);
            ring.join(2, 2, 0, 1);
            int[] want = new int[size];
            want[(i + size - 1) % size] = i == 0 ? 1 : Check.MODULI[kind] - 1;
            check.coefficientsDue("x^" + i + " times x^(N - 1)", ring, 2, want);
        }
    }

    private static void pointsOfValues(int kind) {
        ValueRing ring = Check.ringOf(kind);
        int size = Check.SIZES[kind];
        ring.set(0, 1, 1);
        ring.set(1, 0, 1);
        for (int i = 0; i < size; i++) {
            int point = Check.numberPower(kind, Check.LEAST_Z[kind], 2 * i + 1);
            check.due("x at place " + i, ring.value(0, i), point);
            check.due("1 at place " + i, ring.value(1, i), 1);
        }
        int both = ring.value(0, 0) * ring.value(0, size - 1) % Check.MODULI[kind];
        check.due("first and last point multiplied", both, 1);
    }

    private static void oneZeroMakesNoUnit(int kind) {
        for (int i = 0; i < Check.SIZES[kind]; i++) {
            ValueRing ring = Check.ringOf(kind);
            Check.setEachValue(ring, kind, 3, 1);
            check.due("units, no VALUE 0", ring.count(4), 1);
            check.due("order, no VALUE 0", ring.order(3), 1);
            ring.setValue(3, i, 0);
            check.due("units, VALUE " + i + " 0", ring.count(4), 0);
            check.due("order, VALUE " + i + " 0", ring.order(3), 0);
            check.refused("power", IllegalStateException.class, () -> ring.power(4, 3, -1));
            check.refused("quotient", IllegalStateException.class, () -> ring.join(4, 3, 3, 3));
        }
        // A coefficient 0 is another matter: x is a unit.
        ValueRing ring = Check.ringOf(kind);
        ring.set(0, 1, 1);
        check.due("units with x", ring.count(4), 1);
    }

    private static void sixteenRegisters(int kind) {
        ValueRing ring = Check.ringOf(kind);
        for (int r = 0; r < Check.REGISTERS; r++) {
            check.due("degree of register " + r, ring.about(r, 4), -1);
            check.due("VALUES 0 of register " + r, ring.about(r, 2), Check.SIZES[kind]);
        }
        for (int r = 0; r < Check.REGISTERS; r++) {
            ring.set(r, 0, r + 1);
        }
        for (int r = 0; r < Check.REGISTERS; r++) {
            check.numberDue("register " + r, ring, r, r + 1);
        }
    }

    private static Map<String, OpenCall> callsOfARegister() {
        Map<String, OpenCall> calls = new LinkedHashMap<>();
        calls.put("set(r, 0, 1)", (ring, r) -> ring.set(r, 0, 1));
        calls.put("get(r, 0)", (ring, r) -> ring.get(r, 0));
        calls.put("setValue(r, 0, 1)", (ring, r) -> ring.setValue(r, 0, 1));
        calls.put("value(r, 0)", (ring, r) -> ring.value(r, 0));
        calls.put("join(r, 0, 0, 15)", (ring, r) -> ring.join(r, 0, 0, 15));
        calls.put("join(0, 0, r, 15)", (ring, r) -> ring.join(0, 0, r, 15));
        calls.put("join(0, 0, 15, r)", (ring, r) -> ring.join(0, 0, 15, r));
        calls.put("join(r, 0, r, r)", (ring, r) -> ring.join(r, 0, r, r));
        calls.put("turn(r, 0, 3)", (ring, r) -> ring.turn(r, 0, 3));
        calls.put("turn(0, r, 3)", (ring, r) -> ring.turn(0, r, 3));
        calls.put("power(r, 0, 2)", (ring, r) -> ring.power(r, 0, 2));
        calls.put("power(0, r, 2)", (ring, r) -> ring.power(0, r, 2));
        calls.put("power(0, r, 0)", (ring, r) -> ring.power(0, r, 0));
        // Register 2 is 0, which is a square.
        calls.put("root(r, 2)", (ring, r) -> ring.root(r, 2));
        calls.put("root(0, r)", (ring, r) -> ring.root(0, r));
        calls.put("order(r)", (ring, r) -> ring.order(r));
        calls.put("about(r, 0)", (ring, r) -> ring.about(r, 0));
        calls.put("about(r, 5)", (ring, r) -> ring.about(r, 5));
        calls.put("same(r, 0)", (ring, r) -> ring.same(r, 0) ? 1 : 0);
        calls.put("same(0, r)", (ring, r) -> ring.same(0, r) ? 1 : 0);
        calls.put("same(r, r)", (ring, r) -> ring.same(r, r) ? 1 : 0);
        calls.put("divides(r, 0)", (ring, r) -> ring.divides(r, 0) ? 1 : 0);
        calls.put("divides(0, r)", (ring, r) -> ring.divides(0, r) ? 1 : 0);
        calls.put("divides(r, r)", (ring, r) -> ring.divides(r, r) ? 1 : 0);
        return calls;
    }

    private static void registersThatThereAreNot(int kind) {
        callsOfARegister().forEach((name, call) -> {
            ValueRing ring = Check.ringWithElements(kind);
            check.changesNothing(ring, () -> {
                for (int r : Check.NO_REGISTERS) {
                    check.refused(name + ", r " + r, NO_SUCH_ELEMENT, () -> call.made(ring, r));
                }
            });
            for (int r : new int[] {0, 15}) {
                ValueRing squares = Check.ringOf(kind);
                squares.set(r, 0, 4);
                String got = Check.outcome(() -> call.made(squares, r));
                check.note(!got.endsWith("Exception"), name + ", r " + r + " came to " + got);
            }
        });
    }

    private static Map<String, OpenCall> callsOfAPlace() {
        Map<String, OpenCall> calls = new LinkedHashMap<>();
        calls.put("set(0, i, 1)", (ring, i) -> ring.set(0, i, 1));
        calls.put("get(0, i)", (ring, i) -> ring.get(0, i));
        calls.put("setValue(0, i, 1)", (ring, i) -> ring.setValue(0, i, 1));
        calls.put("value(0, i)", (ring, i) -> ring.value(0, i));
        calls.put("set(15, i, 0)", (ring, i) -> ring.set(15, i, 0));
        calls.put("get(15, i)", (ring, i) -> ring.get(15, i));
        calls.put("setValue(15, i, 0)", (ring, i) -> ring.setValue(15, i, 0));
        calls.put("value(15, i)", (ring, i) -> ring.value(15, i));
        return calls;
    }

    private static void placesThatThereAreNot(int kind) {
        callsOfAPlace().forEach((name, call) -> {
            ValueRing ring = Check.ringWithElements(kind);
            check.changesNothing(ring, () -> {
                for (int i : Check.noPlaces(kind)) {
                    check.refused(name + ", i " + i, NO_SUCH_ELEMENT, () -> call.made(ring, i));
                }
            });
            for (int i : new int[] {0, Check.SIZES[kind] - 1}) {
                String got = Check.outcome(() -> call.made(ring, i));
                check.note(!got.endsWith("Exception"), name + ", i " + i + " came to " + got);
            }
        });
        // Both at once.
        ValueRing ring = Check.ringOf(kind);
        check.refused("get(16, N)", NO_SUCH_ELEMENT, () -> ring.get(16, Check.SIZES[kind]));
        check.refused("set(-1, -1, 1)", NO_SUCH_ELEMENT, () -> ring.set(-1, -1, 1));
    }

    private static void registerBeforeArgument(int kind) {
        ValueRing ring = Check.ringWithElements(kind);
        check.changesNothing(ring, () -> {
            for (int r : Check.NO_REGISTERS) {
                for (int op : new int[] {-1, 4}) {
                    check.refused("join(r, no op, 0, 0)", NO_SUCH_ELEMENT, () -> ring.join(r, op, 0, 0));
                    check.refused("join(0, no op, r, 0)", NO_SUCH_ELEMENT, () -> ring.join(0, op, r, 0));
                    check.refused("join(0, no op, 0, r)", NO_SUCH_ELEMENT, () -> ring.join(0, op, 0, r));
                }
                for (int g : new int[] {0, -2, Integer.MIN_VALUE}) {
                    check.refused("turn(r, 0, even)", NO_SUCH_ELEMENT, () -> ring.turn(r, 0, g));
                    check.refused("turn(0, r, even)", NO_SUCH_ELEMENT, () -> ring.turn(0, r, g));
                }
                for (int what : new int[] {-1, 6, Integer.MIN_VALUE, Integer.MAX_VALUE}) {
                    check.refused("about(r, no what)", NO_SUCH_ELEMENT, () -> ring.about(r, what));
                }
            }
        });
    }

    private static void registerBeforeState(int kind) {
        ValueRing ring = Check.ringWithElements(kind);
        int noUnit = Check.NO_UNIT;
        int noSquare = Check.UNIT;
        check.refused("root(0, no square)", IllegalStateException.class, () -> ring.root(0, noSquare));
        check.changesNothing(ring, () -> {
            for (int r : Check.NO_REGISTERS) {
                check.refused("join(r, 3, 0, no unit)", NO_SUCH_ELEMENT, () -> ring.join(r, 3, 0, noUnit));
                check.refused("join(0, 3, r, no unit)", NO_SUCH_ELEMENT, () -> ring.join(0, 3, r, noUnit));
                check.refused("join(0, 3, no unit, r)", NO_SUCH_ELEMENT, () -> ring.join(0, 3, noUnit, r));
                check.refused("power(r, no unit, -1)", NO_SUCH_ELEMENT, () -> ring.power(r, noUnit, -1));
                check.refused("power(0, r, -1)", NO_SUCH_ELEMENT, () -> ring.power(0, r, -1));
                check.refused("root(r, no square)", NO_SUCH_ELEMENT, () -> ring.root(r, noSquare));
            }
        });
    }

    private static PlainRing plainWithElements(int kind) {
        PlainRing plain = new PlainRing();
        plain.begin(kind);
        int size = Check.SIZES[kind];
        for (int i = 0; i < size; i++) {
            plain.setValue(Check.UNIT, i, i + 1);
            plain.setValue(Check.NO_UNIT, i, i == size - 1 ? 0 : (i + 1) * (i + 1));
            plain.setValue(Check.LAST, i, -1 - i);
        }
        return plain;
    }

    private static void registersDue(String after, int kind, ValueRing ring, PlainRing plain) {
        for (int r : new int[] {Check.UNIT, Check.NO_UNIT, Check.LAST}) {
            for (int i = 0; i < Check.SIZES[kind]; i++) {
                check.due(after + ": get(" + r + ", " + i + ")", ring.get(r, i), plain.get(r, i));
            }
        }
    }

    private static void joinIntoWhatItIsMadeOf(int kind) {
        int[] used = {Check.UNIT, Check.NO_UNIT, Check.LAST};
        for (int op = 0; op < 4; op++) {
            for (int a : used) {
                for (int b : used) {
                    if (op < 3 || b != Check.NO_UNIT) {
                        joinInto(kind, a, op, a, b);
                        joinInto(kind, b, op, a, b);
                    }
                }
            }
        }
    }

    private static void joinInto(int kind, int to, int op, int a, int b) {
        String call = "join(" + to + ", " + op + ", " + a + ", " + b + ")";
        ValueRing ring = Check.ringWithElements(kind);
        PlainRing plain = plainWithElements(kind);
        check.due(call, ring.join(to, op, a, b), plain.join(to, op, a, b));
        registersDue(call, kind, ring, plain);
    }

    private static void theOthersIntoWhatTheyAreMadeOf(int kind) {
        for (int g : new int[] {1, 3, -1, Check.SIZES[kind] + 1, Integer.MAX_VALUE, Integer.MIN_VALUE + 1}) {
            ValueRing ring = Check.ringWithElements(kind);
            PlainRing plain = plainWithElements(kind);
            check.due("turn(0, 0, " + g + ")", ring.turn(0, 0, g), plain.turn(0, 0, g));
            registersDue("turn(0, 0, " + g + ")", kind, ring, plain);
        }
        for (int n : new int[] {0, 1, 2, -1, Integer.MAX_VALUE, Integer.MIN_VALUE}) {
            ValueRing ring = Check.ringWithElements(kind);
            PlainRing plain = plainWithElements(kind);
            check.due("power(0, 0, " + n + ")", ring.power(0, 0, n), plain.power(0, 0, n));
            registersDue("power(0, 0, " + n + ")", kind, ring, plain);
        }
        ValueRing ring = Check.ringWithElements(kind);
        PlainRing plain = plainWithElements(kind);
        check.due("root(1, 1)", ring.root(1, 1), plain.root(1, 1));
        registersDue("root(1, 1)", kind, ring, plain);
    }
}
