import java.lang.reflect.Constructor;
import java.lang.reflect.Field;
import java.lang.reflect.Method;
import java.lang.reflect.Modifier;
import java.util.Arrays;
import java.util.Set;
import java.util.TreeSet;
import java.util.stream.Collectors;

/** The class has just the document's face. */
final class FaceTests {
    private static final Set<String> FACE = Set.of(
            "int setRopes(int) throws IllegalArgumentException",
            "int twist(int, int) throws IndexOutOfBoundsException, IllegalArgumentException, IllegalStateException",
            "int untwist(int) throws IndexOutOfBoundsException, IllegalStateException",
            "int turn(int) throws IndexOutOfBoundsException",
            "int join(int) throws IndexOutOfBoundsException, IllegalStateException",
            "int swap(int, int) throws IndexOutOfBoundsException, IllegalStateException",
            "int about(int, int) throws IndexOutOfBoundsException, IllegalStateException",
            "int insert(int, int, int) throws IndexOutOfBoundsException, IllegalArgumentException, IllegalStateException",
            "int cut(int) throws IndexOutOfBoundsException, IllegalStateException",
            "int letter(int, int) throws IndexOutOfBoundsException",
            "int count(int) throws IndexOutOfBoundsException",
            "int end(int, int) throws IndexOutOfBoundsException",
            "int crosses(int, int, int) throws IndexOutOfBoundsException, IllegalArgumentException",
            "int handle(int, int) throws IndexOutOfBoundsException",
            "int plain(int, int) throws IndexOutOfBoundsException",
            "int same()",
            "int ahead()",
            "int advise(int) throws IndexOutOfBoundsException, IllegalStateException",
            "double mean()",
            "long digest()");

    private FaceTests() { }

    static void addTo(Tests tests) {
        tests.add("the face is the document's", FaceTests::theFaceIsTheDocuments);
        tests.add("no field is seen or shared", FaceTests::noFieldIsSeenOrShared);
    }

    static void theFaceIsTheDocuments(Checks c) {
        Class<?> braid = BraidWords.class;
        c.due("modifiers", braid.getModifiers(), Modifier.PUBLIC | Modifier.FINAL);
        Set<String> faces = new TreeSet<>();
        Set<String> publicNames = new TreeSet<>();
        Set<String> privateNames = new TreeSet<>();
        for (Method method : braid.getDeclaredMethods()) {
            if (Modifier.isPrivate(method.getModifiers())) {
                privateNames.add(method.getName());
            } else {
                c.due("modifiers of " + method.getName(), method.getModifiers(), Modifier.PUBLIC);
                publicNames.add(method.getName());
                faces.add(face(method));
            }
        }
        c.due("public methods", faces, new TreeSet<>(FACE));
        privateNames.retainAll(publicNames);
        c.due("private methods named as public ones", privateNames, new TreeSet<>());
        Constructor<?>[] constructors = braid.getDeclaredConstructors();
        c.due("constructors", constructors.length, 1);
        c.due("modifiers of the constructor", constructors[0].getModifiers(), Modifier.PUBLIC);
        c.due("arguments of the constructor", constructors[0].getParameterCount(), 0);
    }

    static void noFieldIsSeenOrShared(Checks c) {
        for (Field field : BraidWords.class.getDeclaredFields()) {
            int modifiers = field.getModifiers();
            c.due(field.getName() + " is private", Modifier.isPrivate(modifiers), true);
            c.due(field.getName() + " is a constant if static",
                    !Modifier.isStatic(modifiers) || Modifier.isFinal(modifiers), true);
        }
    }

    private static String face(Method method) {
        String thrown = names(method.getExceptionTypes());
        return method.getReturnType().getSimpleName() + " " + method.getName()
                + "(" + names(method.getParameterTypes()) + ")" + (thrown.isEmpty() ? "" : " throws " + thrown);
    }

    private static String names(Class<?>[] classes) {
        return Arrays.stream(classes).map(Class::getSimpleName).collect(Collectors.joining(", "));
    }
}
