import java.util.Map;
import java.util.function.Consumer;

/** Runs every test of the project, and ends with exit code 1 if one fails. */
public final class AllTests {
    private static final int MOST_ROWS = 10;

    private AllTests() { }

    private static Map<String, Consumer<Checks>> tests() {
        Tests tests = new Tests();
        TermsTests.addTo(tests);
        PromiseTests.addTo(tests);
        WordsEdgeTests.addTo(tests);
        MovesEdgeTests.addTo(tests);
        ThereEdgeTests.addTo(tests);
        PlainEdgeTests.addTo(tests);
        FaceTests.addTo(tests);
        LongRunTests.addTo(tests);
        ReadmeTests.addTo(tests);
        return tests.byName;
    }

    private static boolean passes(String name, Consumer<Checks> test) {
        Checks checks = new Checks();
        try {
            test.accept(checks);
        } catch (RuntimeException | AssertionError e) {
            checks.wrong.add("the test broke off: " + e);
        }
        System.out.println((checks.wrong.isEmpty() ? "ok      " : "FAILED  ") + name);
        checks.wrong.stream().limit(MOST_ROWS).forEach(row -> System.out.println("        " + row));
        return checks.wrong.isEmpty();
    }

    public static void main(String[] args) {
        int passed = 0;
        Map<String, Consumer<Checks>> tests = tests();
        for (Map.Entry<String, Consumer<Checks>> test : tests.entrySet()) {
            if (passes(test.getKey(), test.getValue())) {
                passed++;
            }
        }
        int failed = tests.size() - passed;
        System.out.println(passed + " passed, " + failed + " failed");
        if (failed > 0) {
            System.exit(1);
        }
    }
}
