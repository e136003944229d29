import java.util.Random;
import java.util.function.LongSupplier;

/** All promises together: runs of calls, mixed from a fixed seed, answer what the plain model answers. */
public final class PlainModelTest {
    private static final int RUNS_OF_A_KIND = 60;
    // With the 320 looks at the end an object has 512 calls at most: beyond that the document promises nothing.
    private static final int CALLS_OF_A_RUN = 185;
    private static final int[] USED = {0, 1, 2, 7, 15};
    private static final int[] ODD_NUMBERS = {-1, 0, 1, 2, 16, 17, 32, 96, 97, 193, -17, -192,
        Integer.MIN_VALUE, Integer.MIN_VALUE + 1, Integer.MAX_VALUE - 1, Integer.MAX_VALUE};

    private static final Check check = new Check();
    private static final Random random = new Random(20261115);

    private static ValueRing ring;
    private static PlainRing plain;
    private static int calls;

    public static void main(String[] args) {
        for (int kind = 0; kind < 4; kind++) {
            for (int run = 0; run < RUNS_OF_A_KIND; run++) {
                ring = new ValueRing();
                plain = new PlainRing();
                ring.begin(kind);
                plain.begin(kind);
                calls = 1;
                while (calls < CALLS_OF_A_RUN) {
                    oneCall();
                }
                compareAll();
            }
        }
        check.end();
    }

    private static void compare(String call, LongSupplier got, LongSupplier want) {
        calls++;
        String answer = Check.outcome(got);
        String due = Check.outcome(want);
        check.note(answer.equals(due),
            "kind " + plain.count(0) + ": " + call + " came to " + answer + ", due is " + due);
    }

    private static void compareAll() {
        for (int r : USED) {
            for (int i = 0; i < plain.count(1); i++) {
                int place = i;
                compare("get(" + r + ", " + i + ")", () -> ring.get(r, place), () -> plain.get(r, place));
                compare("value(" + r + ", " + i + ")", () -> ring.value(r, place), () -> plain.value(r, place));
            }
        }
    }

    private static boolean seldom() {
        return random.nextInt(60) == 0;
    }

    private static int oddNumber() {
        return ODD_NUMBERS[random.nextInt(ODD_NUMBERS.length)];
    }

    private static int register() {
        return seldom() ? oddNumber() : USED[random.nextInt(USED.length)];
    }

    private static int place() {
        return seldom() ? oddNumber() : random.nextInt(plain.count(1));
    }

    private static int choice(int bound) {
        return seldom() ? oddNumber() : random.nextInt(bound);
    }

    private static int number() {
        switch (random.nextInt(4)) {
            case 0:
                return 0;
            case 1:
                return oddNumber();
            case 2:
                return random.nextInt(5);
            default:
                return random.nextInt();
        }
    }

    private static void oneCall() {
        int a = register();
        int b = register();
        int to = register();
        int i = place();
        int v = number();
        switch (random.nextInt(16)) {
            case 0:
                compare("set(" + a + ", " + i + ", " + v + ")", () -> ring.set(a, i, v), () -> plain.set(a, i, v));
                break;
            case 1:
                compare("get(" + a + ", " + i + ")", () -> ring.get(a, i), () -> plain.get(a, i));
                break;
            case 2:
                compare("setValue(" + a + ", " + i + ", " + v + ")",
                    () -> ring.setValue(a, i, v), () -> plain.setValue(a, i, v));
                break;
            case 3:
                compare("value(" + a + ", " + i + ")", () -> ring.value(a, i), () -> plain.value(a, i));
                break;
            case 4:
            case 5:
            case 6:
                int op = choice(4);
                compare("join(" + to + ", " + op + ", " + a + ", " + b + ")",
                    () -> ring.join(to, op, a, b), () -> plain.join(to, op, a, b));
                break;
            case 7:
                int g = random.nextInt(8) == 0 ? v : v | 1;
                compare("turn(" + to + ", " + a + ", " + g + ")",
                    () -> ring.turn(to, a, g), () -> plain.turn(to, a, g));
                break;
            case 8:
                compare("power(" + to + ", " + a + ", " + v + ")",
                    () -> ring.power(to, a, v), () -> plain.power(to, a, v));
                break;
            case 9:
                // Few elements are squares; one that was just squared is.
                compare("join(" + a + ", 2, " + a + ", " + a + ")",
                    () -> ring.join(a, 2, a, a), () -> plain.join(a, 2, a, a));
                compare("root(" + to + ", " + a + ")", () -> ring.root(to, a), () -> plain.root(to, a));
                break;
            default:
                oneQuestion(a, b, to, v);
        }
    }

    private static void oneQuestion(int a, int b, int to, int v) {
        switch (random.nextInt(6)) {
            case 0:
                compare("order(" + a + ")", () -> ring.order(a), () -> plain.order(a));
                break;
            case 1:
                int what = choice(6);
                compare("about(" + a + ", " + what + ")", () -> ring.about(a, what), () -> plain.about(a, what));
                break;
            case 2:
                compare("same(" + a + ", " + b + ")",
                    () -> ring.same(a, b) ? 1 : 0, () -> plain.same(a, b) ? 1 : 0);
                break;
            case 3:
                compare("divides(" + a + ", " + b + ")",
                    () -> ring.divides(a, b) ? 1 : 0, () -> plain.divides(a, b) ? 1 : 0);
                break;
            case 4:
                int asked = choice(5);
                compare("count(" + asked + ")", () -> ring.count(asked), () -> plain.count(asked));
                break;
            default:
                compare("root(" + to + ", " + a + ")", () -> ring.root(to, a), () -> plain.root(to, a));
                if (seldom()) {
                    compare("begin(" + v + ")", () -> ring.begin(v), () -> plain.begin(v));
                }
        }
    }
}
