import java.util.ArrayList;
import java.util.List;

/** What one test found wrong, and the few ways in which tests look at a BraidWords. */
final class Checks {
    interface Call {
        Object answer();
    }

    static final Class<IndexOutOfBoundsException> INDEX = IndexOutOfBoundsException.class;
    static final Class<IllegalArgumentException> ARGUMENT = IllegalArgumentException.class;
    static final Class<IllegalStateException> STATE = IllegalStateException.class;

    /** Wrong whatever the range of an int argument is. */
    static final int[] FAR_OUT = {Integer.MIN_VALUE, Integer.MIN_VALUE + 1, -1, Integer.MAX_VALUE - 1, Integer.MAX_VALUE};

    final List<String> wrong = new ArrayList<>();

    void due(String what, Object got, Object want) {
        if (!want.equals(got)) {
            wrong.add(what + " answered " + got + ", due is " + want);
        }
    }

    /**
     * The call throws just this class (the machine's own are classes below it), and changes nothing.
     * An object is good for 512 calls alone, so the digest stands for all its letters here.
     */
    void refused(String what, Class<? extends RuntimeException> due, BraidWords braid, Call call) {
        long before = braid.digest();
        due(what + " throws", outcome(call), due);
        due("the digest behind " + what, braid.digest(), before);
    }

    /** The call on a new object: its answer, or the class that it throws, and what stands then. */
    void makes(String name, Given given, Given.Call call, Object answer, Given then) {
        BraidWords braid = given.braid();
        due(name + " on " + given, outcome(() -> call.on(braid)), answer);
        stands("behind " + name + " on " + given, braid, then);
    }

    /** As makes(), of a call that changes nothing. */
    void tells(String name, Given given, Given.Call call, Object answer) {
        makes(name, given, call, answer, given);
    }

    void refuses(String name, Given given, Class<? extends RuntimeException> due, Given.Call call) {
        makes(name, given, call, due, given);
    }

    void refusesEach(String name, Given given, Class<? extends RuntimeException> due, int[] wrongs,
            Given.CallOfOne call) {
        for (int wrong : wrongs) {
            refuses(name + " with " + wrong, given, due, braid -> call.on(braid, wrong));
        }
    }

    /** All these calls throw, on one object, one behind the other; what stood ahead of the first stands then. */
    void throwAndStay(Given given, Given.Call... calls) {
        BraidWords braid = given.braid();
        for (int at = 0; at < calls.length; at++) {
            Given.Call call = calls[at];
            due("call " + at + " on " + given + " throws", outcome(() -> call.on(braid)) instanceof Class, true);
        }
        stands("behind calls that throw on " + given, braid, given);
    }

    void stands(String when, BraidWords braid, Given due) {
        due("what stands " + when, state(braid), due.state());
        due("the digest " + when, braid.digest(), due.braid().digest());
    }

    static Object outcome(Call call) {
        try {
            return call.answer();
        } catch (RuntimeException e) {
            return e.getClass();
        }
    }

    static List<Integer> state(BraidWords braid) {
        List<Integer> state = new ArrayList<>();
        state.add(braid.count(0));
        for (int word = 0; word <= 1; word++) {
            List<Integer> letters = letters(braid, word);
            state.add(letters.size());
            state.addAll(letters);
        }
        return state;
    }

    static List<Integer> letters(BraidWords braid, int word) {
        List<Integer> letters = new ArrayList<>();
        int many = braid.count(1 + word);
        for (int place = 0; place < many; place++) {
            letters.add(braid.letter(word, place));
        }
        return letters;
    }

    static List<Integer> word(int... letters) {
        List<Integer> word = new ArrayList<>();
        for (int letter : letters) {
            word.add(letter);
        }
        return word;
    }

    static List<Integer> repeated(int times, int... letters) {
        List<Integer> word = new ArrayList<>();
        for (int time = 0; time < times; time++) {
            word.addAll(word(letters));
        }
        return word;
    }

    static BraidWords braid(int ropes, List<Integer> word0, List<Integer> word1) {
        BraidWords braid = new BraidWords();
        braid.setRopes(ropes);
        word0.forEach(letter -> braid.twist(0, letter));
        word1.forEach(letter -> braid.twist(1, letter));
        return braid;
    }

    static BraidModel model(int ropes, List<Integer> word0, List<Integer> word1) {
        BraidModel model = new BraidModel();
        model.setRopes(ropes);
        model.words.get(0).addAll(word0);
        model.words.get(1).addAll(word1);
        return model;
    }
}
