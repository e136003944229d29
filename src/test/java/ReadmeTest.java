import java.io.IOException;
import java.lang.reflect.InvocationTargetException;
import java.lang.reflect.Method;
import java.lang.reflect.Modifier;
import java.nio.file.Files;
import java.nio.file.Path;
import java.util.Arrays;
import java.util.List;
import java.util.Map;
import java.util.TreeMap;
import java.util.TreeSet;
import java.util.regex.Matcher;
import java.util.regex.Pattern;

/** What README.md says of the class is what the class does. To be run in the project's folder, as .ci/run does. */
public final class ReadmeTest {
    private static final Pattern CALL =
        Pattern.compile("^ring\\.(\\w+)\\(([-\\d, ]*)\\);\\s+// (?:throws )?([-\\w]+): .+$", Pattern.MULTILINE);
    private static final Pattern KIND =
        Pattern.compile("^\\| (\\d+) \\| (\\d+) \\| (\\d+) \\| (\\d+) \\|$", Pattern.MULTILINE);
    private static final Pattern CALL_ROW = Pattern.compile("^\\| `(\\w+)\\(([\\w, ]*)\\)` \\|", Pattern.MULTILINE);
    private static final Pattern NAME_IN_TEXT = Pattern.compile("`(\\w+)`");

    private static final Check check = new Check();
    private static final Map<String, Method> face = faceByName();

    public static void main(String[] args) throws IOException, IllegalAccessException {
        String readme = Files.readString(Path.of("README.md"));
        examplesAnswerAsWritten(readme);
        kindsAreAsWritten(readme);
        eachCallHasItsRow(readme);
        exceptionsAreOfTheCallsNamed(readme);
        check.end();
    }

    private static void examplesAnswerAsWritten(String readme) throws IllegalAccessException {
        ValueRing ring = new ValueRing();
        TreeSet<String> used = new TreeSet<>();
        Matcher line = CALL.matcher(readme);
        int calls = 0;
        while (line.find()) {
            String call = line.group(1) + "(" + line.group(2) + ")";
            String got = face.containsKey(line.group(1)) ? outcome(ring, line.group(1), line.group(2)) : "no such call";
            check.note(got.equals(line.group(3)), call + " came to " + got + ", README.md has " + line.group(3));
            used.add(line.group(1));
            calls++;
        }
        check.note(used.equals(face.keySet()), "the examples use " + used + ", not " + face.keySet());
        check.due("lines of the examples that tell an answer", calls, readme.split("\nring\\.", -1).length - 1);
    }

    private static void kindsAreAsWritten(String readme) {
        Matcher row = KIND.matcher(readme);
        int kind = 0;
        while (row.find()) {
            ValueRing ring = Check.ringOf(kind);
            for (int what = 0; what < 4; what++) {
                check.due("kind " + kind + ": count(" + what + ")", ring.count(what),
                    Integer.parseInt(row.group(what + 1)));
            }
            kind++;
        }
        check.due("kinds in README.md", kind, Check.SIZES.length);
    }

    private static void eachCallHasItsRow(String readme) {
        TreeSet<String> told = new TreeSet<>();
        Matcher row = CALL_ROW.matcher(readme);
        while (row.find()) {
            told.add(row.group(1) + " " + row.group(2).split(", ").length);
        }
        TreeSet<String> want = new TreeSet<>();
        face.forEach((name, method) -> want.add(name + " " + method.getParameterCount()));
        check.note(told.equals(want), "the calls in README.md, with how many arguments: " + told + ", due is " + want);
    }

    /** For the first exception of the list README.md names the calls that do not throw it. */
    private static void exceptionsAreOfTheCallsNamed(String readme) {
        TreeSet<String> others = new TreeSet<>(face.keySet());
        others.removeAll(namedInItem(readme, 1, "NoSuchElementException"));
        List<TreeSet<String>> told = List.of(others, namedInItem(readme, 2, "IllegalArgumentException"),
            namedInItem(readme, 3, "IllegalStateException"));
        List<String> exceptions =
            List.of("NoSuchElementException", "IllegalArgumentException", "IllegalStateException");
        for (int i = 0; i < exceptions.size(); i++) {
            TreeSet<String> want = callsThatDeclare(exceptions.get(i));
            check.note(told.get(i).equals(want),
                exceptions.get(i) + " is of " + told.get(i) + " in README.md, due is " + want);
        }
    }

    /** The calls named in the item with this number, which goes from the exception's name to the next item's line. */
    private static TreeSet<String> namedInItem(String readme, int number, String exception) {
        TreeSet<String> names = new TreeSet<>();
        String start = "\n" + number + ". `" + exception + "`: ";
        int from = readme.indexOf(start);
        check.note(from >= 0, "README.md has no item " + number + " for " + exception);
        if (from < 0) {
            return names;
        }
        String item = readme.substring(from + start.length()).split("\n(?! )", 2)[0];
        Matcher name = NAME_IN_TEXT.matcher(item);
        while (name.find()) {
            names.add(name.group(1));
        }
        return names;
    }

    private static TreeSet<String> callsThatDeclare(String exception) {
        TreeSet<String> names = new TreeSet<>();
        face.forEach((name, method) -> {
            if (Arrays.stream(method.getExceptionTypes()).anyMatch(type -> type.getSimpleName().equals(exception))) {
                names.add(name);
            }
        });
        return names;
    }

    private static String outcome(ValueRing ring, String name, String arguments) throws IllegalAccessException {
        Object[] numbers = Arrays.stream(arguments.split(", ")).map(Integer::valueOf).toArray();
        try {
            return String.valueOf(face.get(name).invoke(ring, numbers));
        } catch (InvocationTargetException e) {
            return e.getCause().getClass().getSimpleName();
        }
    }

    private static Map<String, Method> faceByName() {
        Map<String, Method> methods = new TreeMap<>();
        for (Method method : ValueRing.class.getDeclaredMethods()) {
            if (Modifier.isPublic(method.getModifiers())) {
                methods.put(method.getName(), method);
            }
        }
        return methods;
    }
}
