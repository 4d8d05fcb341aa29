import java.util.ArrayList;
import java.util.List;

/** What one test found wrong, and the few ways in which tests look at a BraidWords. */
final class Checks {
    interface Call {
        Object answer();
    }

    static final Class<IndexOutOfBoundsException> INDEX = IndexOutOfBoundsException.class;
    static final Class<IllegalArgumentException> ARGUMENT = IllegalArgumentException.class;
    static final Class<IllegalStateException> STATE = IllegalStateException.class;

    /** Wrong whatever the range of an int argument is. */
    static final int[] FAR_OUT = {Integer.MIN_VALUE, Integer.MIN_VALUE + 1, -1, Integer.MAX_VALUE - 1, Integer.MAX_VALUE};

    final List<String> wrong = new ArrayList<>();

    void due(String what, Object got, Object want) {
        if (!want.equals(got)) {
            wrong.add(what + " answered " + got + ", due is " + want);
        }
    }

    /** The call throws just this class (the machine's own are classes below it), and changes nothing. */
    void refused(String what, Class<? extends RuntimeException> due, BraidWords braid, Call call) {
        List<Integer> before = state(braid);
        due(what + " throws", outcome(call), due);
        due("the state behind " + what, state(braid), before);
    }

    static Object outcome(Call call) {
        try {
            return call.answer();
        } catch (RuntimeException e) {
            return e.getClass();
        }
    }

    static List<Integer> state(BraidWords braid) {
        List<Integer> state = new ArrayList<>();
        state.add(braid.count(0));
        for (int word = 0; word <= 1; word++) {
            state.add(braid.count(1 + word));
            state.addAll(letters(braid, word));
        }
        return state;
    }

    static List<Integer> letters(BraidWords braid, int word) {
        List<Integer> letters = new ArrayList<>();
        for (int place = 0; place < braid.count(1 + word); place++) {
            letters.add(braid.letter(word, place));
        }
        return letters;
    }

    static List<Integer> word(int... letters) {
        List<Integer> word = new ArrayList<>();
        for (int letter : letters) {
            word.add(letter);
        }
        return word;
    }

    static List<Integer> repeated(int times, int... letters) {
        List<Integer> word = new ArrayList<>();
        for (int time = 0; time < times; time++) {
            word.addAll(word(letters));
        }
        return word;
    }

    static BraidWords braid(int ropes, List<Integer> word0, List<Integer> word1) {
        BraidWords braid = new BraidWords();
        braid.setRopes(ropes);
        word0.forEach(letter -> braid.twist(0, letter));
        word1.forEach(letter -> braid.twist(1, letter));
        return braid;
    }

    static BraidModel model(int ropes, List<Integer> word0, List<Integer> word1) {
        BraidModel model = new BraidModel();
        model.setRopes(ropes);
        model.words.get(0).addAll(word0);
        model.words.get(1).addAll(word1);
        return model;
    }
}
