import java.util.LinkedHashMap;
import java.util.Map;
import java.util.function.Consumer;

/** Tests by their names, in the order in which they run. */
final class Tests {
    final Map<String, Consumer<Checks>> byName = new LinkedHashMap<>();

    void add(String name, Consumer<Checks> test) {
        if (byName.put(name, test) != null) {
            throw new IllegalStateException("two tests have the name " + name);
        }
    }
}
