import java.lang.reflect.Constructor;
import java.lang.reflect.Field;
import java.lang.reflect.Method;
import java.lang.reflect.Modifier;
import java.util.Arrays;
import java.util.List;
import java.util.TreeSet;

/** The public face of the document, and nothing beside it. */
public final class FaceTest {
    private static final List<String> FACE = List.of(
        "int begin(int) throws IllegalArgumentException",
        "int set(int,int,int) throws NoSuchElementException",
        "int get(int,int) throws NoSuchElementException",
        "int setValue(int,int,int) throws NoSuchElementException",
        "int value(int,int) throws NoSuchElementException",
        "int join(int,int,int,int) throws NoSuchElementException,IllegalArgumentException,IllegalStateException",
        "int turn(int,int,int) throws NoSuchElementException,IllegalArgumentException",
        "int power(int,int,int) throws NoSuchElementException,IllegalStateException",
        "long root(int,int) throws NoSuchElementException,IllegalStateException",
        "int order(int) throws NoSuchElementException",
        "int about(int,int) throws NoSuchElementException,IllegalArgumentException",
        "boolean same(int,int) throws NoSuchElementException",
        "boolean divides(int,int) throws NoSuchElementException",
        "int count(int)");

    public static void main(String[] args) {
        Check check = new Check();
        check.note(Modifier.isPublic(ValueRing.class.getModifiers()), "the class is not public");
        check.note(Modifier.isFinal(ValueRing.class.getModifiers()), "the class is not final");
        Constructor<?>[] constructors = ValueRing.class.getDeclaredConstructors();
        check.due("constructors", constructors.length, 1);
        check.due("the constructor's parameters", constructors[0].getParameterCount(), 0);
        check.note(Modifier.isPublic(constructors[0].getModifiers()), "the constructor is not public");

        TreeSet<String> faceNames = new TreeSet<>();
        for (String line : FACE) {
            faceNames.add(line.substring(line.indexOf(' ') + 1, line.indexOf('(')));
        }
        TreeSet<String> found = new TreeSet<>();
        for (Method method : ValueRing.class.getDeclaredMethods()) {
            if (Modifier.isPrivate(method.getModifiers())) {
                check.note(!faceNames.contains(method.getName()), "a private method has a public name: " + method);
            } else {
                found.add(told(method));
            }
        }
        check.note(found.equals(new TreeSet<>(FACE)), "the face is " + found + ", due is " + new TreeSet<>(FACE));
        for (Field field : ValueRing.class.getDeclaredFields()) {
            check.note(Modifier.isPrivate(field.getModifiers()), "a field is not private: " + field);
            boolean bound = !Modifier.isStatic(field.getModifiers()) || Modifier.isFinal(field.getModifiers());
            check.note(bound, "a static field is not final: " + field);
        }
        check.end();
    }

    private static String told(Method method) {
        String text = method.getReturnType().getSimpleName() + " " + method.getName() + "("
            + String.join(",", names(method.getParameterTypes())) + ")";
        if (method.getExceptionTypes().length > 0) {
            text += " throws " + String.join(",", names(method.getExceptionTypes()));
        }
        return Modifier.isPublic(method.getModifiers()) ? text : "not public: " + text;
    }

    private static List<String> names(Class<?>[] types) {
        return Arrays.stream(types).map(Class::getSimpleName).toList();
    }
}
