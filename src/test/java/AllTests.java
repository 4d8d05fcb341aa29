import java.util.LinkedHashMap;
import java.util.Map;
import java.util.function.Consumer;

/** Runs every test of the project, and ends with exit code 1 if one fails. */
public final class AllTests {
    private static final int MOST_ROWS = 10;

    private AllTests() { }

    private static Map<String, Consumer<Checks>> tests() {
        Map<String, Consumer<Checks>> tests = new LinkedHashMap<>();
        tests.put("promise 1: a new object", PromiseTests::promise1NewObject);
        tests.put("promise 2: setRopes", PromiseTests::promise2SetRopes);
        tests.put("promise 3: twist", PromiseTests::promise3Twist);
        tests.put("promise 4: untwist", PromiseTests::promise4Untwist);
        tests.put("promise 5: turn", PromiseTests::promise5Turn);
        tests.put("promise 6: join", PromiseTests::promise6Join);
        tests.put("promise 7: swap", PromiseTests::promise7Swap);
        tests.put("promise 8: about", PromiseTests::promise8About);
        tests.put("promise 9: insert", PromiseTests::promise9Insert);
        tests.put("promise 10: cut", PromiseTests::promise10Cut);
        tests.put("promise 11: letter", PromiseTests::promise11Letter);
        tests.put("promise 12: count", PromiseTests::promise12Count);
        tests.put("promise 13: end", PromiseTests::promise13End);
        tests.put("promise 14: crosses", PromiseTests::promise14Crosses);
        tests.put("promise 15: handle", PromiseTests::promise15Handle);
        tests.put("promise 16: plain", PromiseTests::promise16Plain);
        tests.put("promise 17: same", PromiseTests::promise17Same);
        tests.put("promise 18: ahead", PromiseTests::promise18Ahead);
        tests.put("promise 19: advise", PromiseTests::promise19Advise);
        tests.put("promise 20: mean", PromiseTests::promise20Mean);
        tests.put("promise 21: digest", PromiseTests::promise21Digest);
        tests.put("100 cuts are not too many", EdgeTests::hundredCutsAreNotTooMany);
        tests.put("101 cuts are lost", EdgeTests::hundredAndOneCutsAreLost);
        tests.put("100 letters are not too many", EdgeTests::hundredLettersAreNotTooMany);
        tests.put("more than 100 letters are lost", EdgeTests::moreThanHundredLettersAreLost);
        tests.put("lost letters are no advice", EdgeTests::lostLettersAreNoAdvice);
        tests.put("the face is the document's", FaceTests::theFaceIsTheDocuments);
        tests.put("no field is seen or shared", FaceTests::noFieldIsSeenOrShared);
        tests.put("long runs answer as the model does", LongRunTests::everyAnswerIsTheModels);
        return tests;
    }

    private static boolean passes(String name, Consumer<Checks> test) {
        Checks checks = new Checks();
        try {
            test.accept(checks);
        } catch (RuntimeException | AssertionError e) {
            checks.wrong.add("the test broke off: " + e);
        }
        System.out.println((checks.wrong.isEmpty() ? "ok      " : "FAILED  ") + name);
        checks.wrong.stream().limit(MOST_ROWS).forEach(row -> System.out.println("        " + row));
        return checks.wrong.isEmpty();
    }

    public static void main(String[] args) {
        int passed = 0;
        Map<String, Consumer<Checks>> tests = tests();
        for (Map.Entry<String, Consumer<Checks>> test : tests.entrySet()) {
            if (passes(test.getKey(), test.getValue())) {
                passed++;
            }
        }
        int failed = tests.size() - passed;
        System.out.println(passed + " passed, " + failed + " failed");
        if (failed > 0) {
            System.exit(1);
        }
    }
}
