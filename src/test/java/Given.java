import java.util.ArrayList;
import java.util.List;

/** Ropes and two words, to which a new object is brought ahead of a call. */
record Given(int ropes, List<Integer> word0, List<Integer> word1) {
    interface Call {
        Object on(BraidWords braid);
    }

    interface CallOfOne {
        Object on(BraidWords braid, int argument);
    }

    static Given empty(int ropes) {
        return new Given(ropes, List.of(), List.of());
    }

    static Given full(int ropes) {
        return lengths(ropes, 30, 30);
    }

    static Given lengths(int ropes, int many0, int many1) {
        return new Given(ropes, row(ropes, many0), BraidModel.turnedRound(row(ropes, many1)));
    }

    /** The word of this number has these letters, and the other one those. */
    static Given of(int ropes, int word, List<Integer> letters, List<Integer> others) {
        return word == 0 ? new Given(ropes, letters, others) : new Given(ropes, others, letters);
    }

    /** A row of letters in which those at neighbouring places are never the same. */
    static List<Integer> row(int ropes, int many) {
        List<Integer> row = new ArrayList<>();
        for (int place = 0; place < many; place++) {
            int height = 1 + place % (ropes - 1);
            row.add(place % 5 < 2 ? -height : height);
        }
        return row;
    }

    List<Integer> word(int word) {
        return word == 0 ? word0 : word1;
    }

    /** The same, but for this word. */
    Given with(int word, List<Integer> letters) {
        return of(ropes, word, letters, word(1 - word));
    }

    BraidWords braid() {
        return Checks.braid(ropes, word0, word1);
    }

    BraidModel model() {
        return Checks.model(ropes, word0, word1);
    }

    /** As Checks.state() tells it. */
    List<Integer> state() {
        List<Integer> state = new ArrayList<>();
        state.add(ropes);
        state.add(word0.size());
        state.addAll(word0);
        state.add(word1.size());
        state.addAll(word1);
        return state;
    }
}
