import java.io.IOException;
import java.io.UncheckedIOException;
import java.lang.reflect.InvocationTargetException;
import java.lang.reflect.Method;
import java.nio.file.Files;
import java.nio.file.Path;
import java.util.Arrays;
import java.util.List;
import java.util.regex.Matcher;
import java.util.regex.Pattern;
import java.util.stream.Stream;

/** README.md, which lies where the tests are run, says nothing that the class doesn't do. */
final class ReadmeTests {
    private static final Path README = Path.of("README.md");
    private static final String BEGIN = "```java";
    private static final String MAKING = "BraidWords braid = new BraidWords();";
    private static final String END = "```";
    private static final Pattern CALL = Pattern.compile("braid\\.(\\w+)\\(([-0-9, ]*)\\); +// ([^:]+)(: .*)?");

    private ReadmeTests() { }

    static void addTo(Tests tests) {
        tests.add("README.md: the example answers as it says", ReadmeTests::theExampleAnswersAsItSays);
        tests.add("README.md: the example's answers are those of the model", ReadmeTests::theExamplesAnswersAreDue);
        tests.add("README.md: each call stands in the table, and no other", ReadmeTests::eachCallStandsInTheTable);
    }

    private static List<String> lines() {
        try {
            return Files.readAllLines(README);
        } catch (IOException e) {
            throw new UncheckedIOException(e);
        }
    }

    /** The calls of the example, behind the one that makes its object. */
    private static List<String> calls(Checks c) {
        List<String> lines = lines();
        List<String> example = lines.subList(lines.indexOf(BEGIN) + 1, lines.size());
        example = example.subList(0, example.indexOf(END));
        c.due("the first line of the example", example.get(0), MAKING);
        c.due("more than ten calls", example.size() > 10, true);
        return example.subList(1, example.size());
    }

    private static void answers(Checks c, Object made) {
        for (String line : calls(c)) {
            Matcher call = CALL.matcher(line);
            c.due("can be read: " + line, call.matches(), true);
            if (call.matches()) {
                c.due(line, answer(made, call.group(1), arguments(call.group(2))), call.group(3));
            }
        }
    }

    private static Integer[] arguments(String told) {
        return Stream.of(told.split(", *")).filter(number -> !number.isEmpty()).map(Integer::valueOf).toArray(Integer[]::new);
    }

    private static String answer(Object made, String name, Integer[] arguments) {
        Class<?>[] types = new Class<?>[arguments.length];
        Arrays.fill(types, int.class);
        try {
            Method method = made.getClass().getDeclaredMethod(name, types);
            return String.valueOf(method.invoke(made, (Object[]) arguments));
        } catch (InvocationTargetException e) {
            return "throws " + e.getCause().getClass().getSimpleName();
        } catch (ReflectiveOperationException e) {
            return "can't be called: " + e;
        }
    }

    static void theExampleAnswersAsItSays(Checks c) {
        answers(c, new BraidWords());
    }

    static void theExamplesAnswersAreDue(Checks c) {
        answers(c, new BraidModel());
    }

    static void eachCallStandsInTheTable(Checks c) {
        List<String> told = lines().stream().filter(line -> line.startsWith("| `"))
                .map(line -> line.substring(3, line.indexOf('('))).sorted().toList();
        List<String> due = Arrays.stream(BraidWords.class.getMethods())
                .filter(method -> method.getDeclaringClass() == BraidWords.class).map(Method::getName).sorted().toList();
        c.due("the calls in the table", told, due);
    }
}
