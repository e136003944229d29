import java.util.NoSuchElementException;

/** Promise 10: root. */
public final class RootTest {
    private static final Check check = new Check();

    public static void main(String[] args) {
        String words = "REGISTER to is the ELEMENT whose square is a and whose VALUES are, each by itself, as small as "
            + "can be: how many ELEMENTS have that square (2 to some power).";
        check.sentenceForKinds("Promise 10", words, RootTest::everyNumber);
        check.sentence("Promise 10", words, RootTest::eachValueByItself);
        check.sentenceForKinds("Promise 10", words, RootTest::theLargestRootThatIsSmallest);
        check.sentenceForKinds("Promise 10", words, RootTest::rootsOfSquaresOfLargeNumbers);
        check.sentenceForKinds("Promise 10", "how many ELEMENTS have that square (2 to some power)", RootTest::counts);
        check.sentence("Promise 10", "how many ELEMENTS have that square (2 to some power)", RootTest::beyondAnInt);
        check.sentenceForKinds("Terms and promise 10", Check.MADE_OF, RootTest::theTargetMayBeTheSource);
        check.sentenceForKinds("Terms and promise 10", Check.NO_SUCH, RootTest::refusesRegistersThatThereAreNot);
        check.sentenceForKinds("Promise 10", "IllegalStateException: there is none.", RootTest::refusesWhatIsNoSquare);
        check.sentenceForKinds("Promises 7 and 10", "a call that throws changes nothing, here and below.",
            RootTest::whatThrowsChangesNothing);
        check.end();
    }

    private static int leastRoot(int number, int modulus) {
        for (int candidate = 0; candidate < modulus; candidate++) {
            if (candidate * candidate % modulus == number) {
                return candidate;
            }
        }
        return -1;
    }

    private static int leastThatIsNoSquare(int kind) {
        int number = 2;
        while (leastRoot(number, Check.MODULI[kind]) >= 0) {
            number++;
        }
        return number;
    }

    private static void everyNumber(int kind) {
        int modulus = Check.MODULI[kind];
        for (int number = 0; number < modulus; number++) {
            ValueRing ring = Check.ringOf(kind);
            ring.set(0, 0, number);
            ring.setValue(1, 1, 9);
            int want = leastRoot(number, modulus);
            if (want < 0) {
                check.refused("root of " + number, IllegalStateException.class, () -> ring.root(1, 0));
                check.due("the target after a refusal", ring.value(1, 1), 9);
                check.due("its other values", ring.value(1, 0), 0);
            } else {
                long many = number == 0 ? 1L : 1L << Check.SIZES[kind];
                check.due("root of " + number, ring.root(1, 0), many);
                check.numberDue("root of " + number, ring, 1, want);
            }
        }
    }

    private static void eachValueByItself() {
        ValueRing ring = new ValueRing();
        Check.setAllValues(ring, 0, 16, 15, 0, 13);
        check.due("root of 16 15 0 13", ring.root(1, 0), 8);
        check.valuesDue("root", ring, 1, 4, 7, 0, 8);
        check.valuesDue("a stays", ring, 0, 16, 15, 0, 13);
        ring.join(2, 2, 1, 1);
        check.due("its square", ring.same(2, 0), true);
    }

    private static void theLargestRootThatIsSmallest(int kind) {
        int half = (Check.MODULI[kind] - 1) / 2;
        ValueRing ring = Check.ringOf(kind);
        ring.set(0, 0, half * half);
        ring.root(1, 0);
        check.numberDue("root of ((T - 1) / 2)^2", ring, 1, half);
        ring.set(0, 0, (half + 1) * (half + 1));
        ring.root(1, 0);
        check.numberDue("root of ((T + 1) / 2)^2", ring, 1, half);
    }

    private static void rootsOfSquaresOfLargeNumbers(int kind) {
        int size = Check.SIZES[kind];
        ValueRing ring = Check.ringOf(kind);
        int[] want = new int[size];
        for (int i = 0; i < size; i++) {
            ring.setValue(0, i, -i);
            want[i] = Math.min(i, Check.MODULI[kind] - i);
        }
        ring.join(0, 2, 0, 0);
        check.due("roots of 0, 1, 4 ..", ring.root(1, 0), 1L << (size - 1));
        check.valuesDue("roots of 0, 1, 4 ..", ring, 1, want);
    }

    private static void counts(int kind) {
        ValueRing ring = Check.ringOf(kind);
        ring.set(1, 0, 5);
        check.due("root of 0", ring.root(1, 0), 1);
        check.numberDue("root of 0", ring, 1, 0);
        for (int i = 0; i < Check.SIZES[kind]; i++) {
            ring.setValue(0, i, 4);
            check.due("roots of " + (i + 1) + " VALUES", ring.root(1, 0), 1L << (i + 1));
            check.due("root's VALUE", ring.value(1, i), 2);
        }
    }

    private static void beyondAnInt() {
        ValueRing ring = Check.ringOf(3);
        ring.set(0, 0, 1);
        check.due("roots of 1", ring.root(1, 0), 4294967296L);
        check.numberDue("root of 1", ring, 1, 1);
        ring.setValue(0, 31, 0);
        check.due("roots where the last VALUE is 0", ring.root(1, 0), 2147483648L);
        ring.setValue(0, 0, 0);
        check.due("roots where the first one is 0, too", ring.root(1, 0), 1073741824L);
    }

    private static void theTargetMayBeTheSource(int kind) {
        ValueRing ring = Check.ringWithElements(kind);
        long many = ring.root(7, Check.NO_UNIT);
        check.due("root in place", ring.root(Check.NO_UNIT, Check.NO_UNIT), many);
        check.due("root in place and apart", ring.same(7, Check.NO_UNIT), true);
        check.due("root of 0 in place", ring.root(9, 9), 1);
        check.numberDue("root of 0 in place", ring, 9, 0);
    }

    private static void refusesRegistersThatThereAreNot(int kind) {
        ValueRing ring = Check.ringWithElements(kind);
        for (int r : Check.NO_REGISTERS) {
            check.refused("root(r, a square)", NoSuchElementException.class, () -> ring.root(r, Check.NO_UNIT));
            check.refused("root(r, no square)", NoSuchElementException.class, () -> ring.root(r, Check.UNIT));
            check.refused("root(0, r)", NoSuchElementException.class, () -> ring.root(0, r));
        }
    }

    private static void refusesWhatIsNoSquare(int kind) {
        for (int rest : new int[] {0, 1}) {
            for (int i = 0; i < Check.SIZES[kind]; i++) {
                ValueRing ring = Check.ringOf(kind);
                Check.setEachValue(ring, kind, 0, rest);
                ring.setValue(0, i, leastThatIsNoSquare(kind));
                check.refused("root where VALUE " + i + " is no square", IllegalStateException.class,
                    () -> ring.root(1, 0));
                check.numberDue("the target", ring, 1, 0);
            }
        }
    }

    private static void whatThrowsChangesNothing(int kind) {
        ValueRing ring = Check.ringWithElements(kind);
        // Squares in all places but the last, so that what is done place by place would have begun.
        ring.join(Check.LAST, 2, Check.LAST, Check.LAST);
        ring.setValue(Check.LAST, Check.SIZES[kind] - 1, leastThatIsNoSquare(kind));
        check.changesNothing(ring, () -> {
            for (int to : new int[] {Check.UNIT, Check.NO_UNIT, 7, Check.LAST}) {
                check.refused("root(to, 15)", IllegalStateException.class, () -> ring.root(to, Check.LAST));
                check.refused("root(to, 0)", IllegalStateException.class, () -> ring.root(to, Check.UNIT));
                check.refused("root(to, 16)", NoSuchElementException.class, () -> ring.root(to, 16));
                check.refused("root(16, to)", NoSuchElementException.class, () -> ring.root(16, to));
            }
        });
    }
}
