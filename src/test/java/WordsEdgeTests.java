import java.util.ArrayList;
import java.util.List;

/** Each sentence of the promises 1 to 6 that names a boundary case. */
final class WordsEdgeTests {
    private static final List<Integer> NONE = List.of();

    private WordsEdgeTests() { }

    static void addTo(Tests tests) {
        tests.add("promise 1: Creates three ropes, and two empty words",
                WordsEdgeTests::promise1CreatesThreeRopesAndTwoEmptyWords);
        tests.add("promise 2: Hangs up other ropes; both words are empty then",
                WordsEdgeTests::promise2BothWordsAreEmptyThen);
        tests.add("promise 2: Returns how many there were", WordsEdgeTests::promise2ReturnsHowManyThereWere);
        tests.add("promise 2: Throws IllegalArgumentException if ropes is not 3 to 6",
                WordsEdgeTests::promise2ThrowsIllegalArgumentIfRopesIsNot3To6);
        tests.add("promise 2: A method that throws an exception changes nothing",
                WordsEdgeTests::promise2AThrowChangesNothing);
        tests.add("promise 3: Adds a letter to the end of a word", WordsEdgeTests::promise3AddsALetterToTheEnd);
        tests.add("promise 3: Returns how many letters it has then", WordsEdgeTests::promise3ReturnsHowManyLettersItHasThen);
        tests.add("promise 3: Throws IndexOutOfBoundsException if word is not 0 to 1",
                WordsEdgeTests::promise3ThrowsIndexOutOfBoundsIfWordIsNot0To1);
        tests.add("promise 3: Throws IllegalArgumentException if letter is 0",
                WordsEdgeTests::promise3ThrowsIllegalArgumentIfLetterIs0);
        tests.add("promise 3: Throws IllegalArgumentException if its height is as many as the ropes or more",
                WordsEdgeTests::promise3ThrowsIllegalArgumentIfItsHeightIsAsManyAsTheRopesOrMore);
        tests.add("promise 3: Throws IllegalStateException if it has 30", WordsEdgeTests::promise3ThrowsIllegalStateIfItHas30);
        tests.add("promise 3: If several exceptions apply, the one that is named first is thrown",
                WordsEdgeTests::promise3OfSeveralTheFirstIsThrown);
        tests.add("promise 3: A method that throws an exception changes nothing",
                WordsEdgeTests::promise3AThrowChangesNothing);
        tests.add("promise 4: Takes the last letter off a word", WordsEdgeTests::promise4TakesTheLastLetterOff);
        tests.add("promise 4: Returns this letter", WordsEdgeTests::promise4ReturnsThisLetter);
        tests.add("promise 4: Throws IndexOutOfBoundsException if word is not 0 to 1",
                WordsEdgeTests::promise4ThrowsIndexOutOfBoundsIfWordIsNot0To1);
        tests.add("promise 4: Throws IllegalStateException if it is empty",
                WordsEdgeTests::promise4ThrowsIllegalStateIfItIsEmpty);
        tests.add("promise 4: If several exceptions apply, the one that is named first is thrown",
                WordsEdgeTests::promise4OfSeveralTheFirstIsThrown);
        tests.add("promise 4: A method that throws an exception changes nothing",
                WordsEdgeTests::promise4AThrowChangesNothing);
        tests.add("promise 5: Turns a word round: its letters from the last one on, each turned round",
                WordsEdgeTests::promise5TurnsAWordRound);
        tests.add("promise 5: Returns how many letters it has", WordsEdgeTests::promise5ReturnsHowManyLettersItHas);
        tests.add("promise 5: Throws IndexOutOfBoundsException if word is not 0 to 1",
                WordsEdgeTests::promise5ThrowsIndexOutOfBoundsIfWordIsNot0To1);
        tests.add("promise 5: A method that throws an exception changes nothing",
                WordsEdgeTests::promise5AThrowChangesNothing);
        tests.add("promise 6: Adds all letters of the other word to the end of a word; the other one stays",
                WordsEdgeTests::promise6AddsAllLettersOfTheOtherWord);
        tests.add("promise 6: Returns how many letters it has then", WordsEdgeTests::promise6ReturnsHowManyLettersItHasThen);
        tests.add("promise 6: Throws IndexOutOfBoundsException if word is not 0 to 1",
                WordsEdgeTests::promise6ThrowsIndexOutOfBoundsIfWordIsNot0To1);
        tests.add("promise 6: Throws IllegalStateException if these would be more than 30",
                WordsEdgeTests::promise6ThrowsIllegalStateIfTheseWouldBeMoreThan30);
        tests.add("promise 6: If several exceptions apply, the one that is named first is thrown",
                WordsEdgeTests::promise6OfSeveralTheFirstIsThrown);
        tests.add("promise 6: A method that throws an exception changes nothing",
                WordsEdgeTests::promise6AThrowChangesNothing);
    }

    // ---- promise 1

    static void promise1CreatesThreeRopesAndTwoEmptyWords(Checks c) {
        c.due("what stands at first", Checks.state(new BraidWords()), List.of(3, 0, 0));
        new BraidWords().setRopes(6);
        new BraidWords().twist(0, 2);
        c.due("what stands behind calls on others", Checks.state(new BraidWords()), List.of(3, 0, 0));
        c.due("the greatest letter", new BraidWords().twist(1, 2), 1);
        c.due("the least letter", new BraidWords().twist(0, -2), 1);
        c.due("a letter of 4 ropes", Checks.outcome(() -> new BraidWords().twist(0, 3)), Checks.ARGUMENT);
        c.due("end of the last rope", new BraidWords().end(0, 2), 2);
        c.due("end of a fourth rope", Checks.outcome(() -> new BraidWords().end(0, 3)), Checks.INDEX);
        for (int word = 0; word <= 1; word++) {
            int w = word;
            c.due("letter", Checks.outcome(() -> new BraidWords().letter(w, 0)), Checks.INDEX);
            c.due("untwist", Checks.outcome(() -> new BraidWords().untwist(w)), Checks.STATE);
            c.due("cut", Checks.outcome(() -> new BraidWords().cut(w)), Checks.STATE);
            c.due("letters of its plain form", new BraidWords().plain(w, 0), 0);
        }
        c.due("same()", new BraidWords().same(), 1);
        c.due("mean()", new BraidWords().mean(), 0.0);
    }

    // ---- promise 2

    static void promise2BothWordsAreEmptyThen(Checks c) {
        for (int from = 3; from <= 6; from++) {
            for (int ropes = 3; ropes <= 6; ropes++) {
                int to = ropes;
                Given.Call setRopes = braid -> braid.setRopes(to);
                for (Given given : List.of(Given.empty(from), Given.lengths(from, 1, 0), Given.lengths(from, 0, 1),
                        Given.full(from))) {
                    c.makes("setRopes(" + to + ")", given, setRopes, from, Given.empty(to));
                }
                BraidWords braid = Given.full(from).braid();
                braid.setRopes(to);
                c.refused("letter(0, 0)", Checks.INDEX, braid, () -> braid.letter(0, 0));
                c.refused("letter(1, 0)", Checks.INDEX, braid, () -> braid.letter(1, 0));
                c.refused("twist(0, " + to + ")", Checks.ARGUMENT, braid, () -> braid.twist(0, to));
                c.refused("end(0, " + to + ")", Checks.INDEX, braid, () -> braid.end(0, to));
                c.due("end of the last rope", braid.end(0, to - 1), to - 1);
                c.due("the greatest letter", braid.twist(0, to - 1), 1);
                c.due("the least letter", braid.twist(1, 1 - to), 1);
            }
        }
    }

    static void promise2ReturnsHowManyThereWere(Checks c) {
        for (int ropes = 3; ropes <= 6; ropes++) {
            BraidWords braid = new BraidWords();
            c.due("setRopes of a new one", braid.setRopes(ropes), 3);
            c.due("setRopes then", braid.setRopes(ropes), ropes);
            Checks.outcome(() -> braid.setRopes(7));
            Checks.outcome(() -> braid.setRopes(2));
            c.due("setRopes behind refused ones", braid.setRopes(3), ropes);
            c.due("setRopes behind 3", braid.setRopes(6), 3);
        }
    }

    static void promise2ThrowsIllegalArgumentIfRopesIsNot3To6(Checks c) {
        int[] wrongs = {2, 7, 1, 0, 8, 9, -1, -2, -3, -4, -5, -6, -7,
            Integer.MIN_VALUE, Integer.MIN_VALUE + 1, Integer.MAX_VALUE - 1, Integer.MAX_VALUE};
        for (int ropes = 3; ropes <= 6; ropes++) {
            c.refusesEach("setRopes", Given.empty(ropes), Checks.ARGUMENT, wrongs, BraidWords::setRopes);
            c.refusesEach("setRopes", Given.full(ropes), Checks.ARGUMENT, wrongs, BraidWords::setRopes);
        }
        c.due("the fewest", new BraidWords().setRopes(3), 3);
        c.due("the most", new BraidWords().setRopes(6), 3);
    }

    static void promise2AThrowChangesNothing(Checks c) {
        for (int ropes = 3; ropes <= 6; ropes++) {
            c.throwAndStay(Given.full(ropes), b -> b.setRopes(2), b -> b.setRopes(7), b -> b.setRopes(0));
            c.throwAndStay(Given.lengths(ropes, 1, 0), b -> b.setRopes(7), b -> b.setRopes(2), b -> b.setRopes(-3));
        }
    }

    // ---- promise 3

    static void promise3AddsALetterToTheEnd(Checks c) {
        for (int ropes = 3; ropes <= 6; ropes++) {
            for (int word = 0; word <= 1; word++) {
                for (int letter = 1 - ropes; letter < ropes; letter++) {
                    if (letter != 0) {
                        addsToTheEnd(c, Given.empty(ropes), word, letter);
                        addsToTheEnd(c, Given.lengths(ropes, 29, 29), word, letter);
                        addsToTheEnd(c, Given.full(ropes).with(word, NONE), word, letter);
                    }
                }
            }
        }
    }

    private static void addsToTheEnd(Checks c, Given given, int word, int letter) {
        List<Integer> then = BraidModel.oneBehindTheOther(given.word(word), List.of(letter));
        c.makes("twist(" + word + ", " + letter + ")", given, braid -> braid.twist(word, letter),
                then.size(), given.with(word, then));
    }

    static void promise3ReturnsHowManyLettersItHasThen(Checks c) {
        for (int word = 0; word <= 1; word++) {
            BraidWords alone = new BraidWords();
            BraidWords besideFull = Given.full(3).with(word, NONE).braid();
            for (int many = 1; many <= 30; many++) {
                c.due("twist beside an empty word", alone.twist(word, 1), many);
                c.due("twist beside a full word", besideFull.twist(word, -2), many);
            }
        }
    }

    static void promise3ThrowsIndexOutOfBoundsIfWordIsNot0To1(Checks c) {
        for (int many : new int[] {0, 29}) {
            c.refusesEach("twist", Given.lengths(3, many, many), Checks.INDEX, Wrong.WORDS, (braid, w) -> braid.twist(w, 1));
            c.refusesEach("twist", Given.lengths(6, many, many), Checks.INDEX, Wrong.WORDS, (braid, w) -> braid.twist(w, -5));
        }
    }

    static void promise3ThrowsIllegalArgumentIfLetterIs0(Checks c) {
        for (int ropes = 3; ropes <= 6; ropes++) {
            c.refuses("twist(0, 0)", Given.empty(ropes), Checks.ARGUMENT, braid -> braid.twist(0, 0));
            c.refuses("twist(1, 0)", Given.lengths(ropes, 3, 29), Checks.ARGUMENT, braid -> braid.twist(1, 0));
        }
    }

    static void promise3ThrowsIllegalArgumentIfItsHeightIsAsManyAsTheRopesOrMore(Checks c) {
        for (int ropes = 3; ropes <= 6; ropes++) {
            for (int word = 0; word <= 1; word++) {
                int w = word;
                Given.CallOfOne twist = (braid, letter) -> braid.twist(w, letter);
                c.refusesEach("twist", Given.empty(ropes), Checks.ARGUMENT, Wrong.letters(ropes), twist);
                c.refusesEach("twist", Given.lengths(ropes, 29, 29), Checks.ARGUMENT, Wrong.letters(ropes), twist);
            }
            BraidWords fewerThen = Given.empty(6).braid();
            fewerThen.setRopes(ropes);
            int height = ropes;
            c.refused("twist", Checks.ARGUMENT, fewerThen, () -> fewerThen.twist(0, height));
            c.refused("twist", Checks.ARGUMENT, fewerThen, () -> fewerThen.twist(0, -height));
        }
    }

    static void promise3ThrowsIllegalStateIfItHas30(Checks c) {
        for (int ropes = 3; ropes <= 6; ropes++) {
            c.refuses("twist(0, 1)", Given.full(ropes), Checks.STATE, braid -> braid.twist(0, 1));
            c.refuses("twist(1, -1)", Given.full(ropes), Checks.STATE, braid -> braid.twist(1, -1));
            c.refuses("twist(0, 1)", Given.lengths(ropes, 30, 0), Checks.STATE, braid -> braid.twist(0, 1));
            c.refuses("twist(1, -1)", Given.lengths(ropes, 0, 30), Checks.STATE, braid -> braid.twist(1, -1));
            c.due("twist to 30", Given.lengths(ropes, 29, 30).braid().twist(0, 2), 30);
            c.due("twist to 30", Given.lengths(ropes, 30, 29).braid().twist(1, 2), 30);
        }
        BraidWords joined = Given.lengths(3, 15, 15).braid();
        joined.join(0);
        c.refused("twist behind join", Checks.STATE, joined, () -> joined.twist(0, 1));
        BraidWords inserted = Given.lengths(3, 28, 0).braid();
        inserted.insert(0, 0, 1);
        c.refused("twist behind insert", Checks.STATE, inserted, () -> inserted.twist(0, 1));
        inserted.untwist(0);
        c.due("twist behind untwist", inserted.twist(0, 1), 30);
    }

    static void promise3OfSeveralTheFirstIsThrown(Checks c) {
        for (int wrong : new int[] {-1, 2}) {
            c.refuses("word and letter", Given.empty(3), Checks.INDEX, braid -> braid.twist(wrong, 0));
            c.refuses("word and letter", Given.empty(3), Checks.INDEX, braid -> braid.twist(wrong, 3));
            c.refuses("word and 30", Given.full(3), Checks.INDEX, braid -> braid.twist(wrong, 1));
            c.refuses("all three", Given.full(3), Checks.INDEX, braid -> braid.twist(wrong, -3));
            c.refuses("all three", Given.full(3), Checks.INDEX, braid -> braid.twist(wrong, 0));
        }
        for (int word = 0; word <= 1; word++) {
            int w = word;
            c.refusesEach("letter and 30", Given.full(3), Checks.ARGUMENT, Wrong.letters(3), (b, l) -> b.twist(w, l));
            c.refusesEach("letter and 30", Given.full(6), Checks.ARGUMENT, Wrong.letters(6), (b, l) -> b.twist(w, l));
        }
    }

    static void promise3AThrowChangesNothing(Checks c) {
        c.throwAndStay(Given.full(4), b -> b.twist(0, 1), b -> b.twist(1, 3), b -> b.twist(0, 0), b -> b.twist(-1, 1));
        c.throwAndStay(Given.lengths(5, 29, 0), b -> b.twist(2, 1), b -> b.twist(0, 5), b -> b.twist(1, 0),
                b -> b.twist(1, Integer.MIN_VALUE));
    }

    // ---- promise 4

    static void promise4TakesTheLastLetterOff(Checks c) {
        for (int word = 0; word <= 1; word++) {
            for (int many : new int[] {1, 2, 29, 30}) {
                takesTheLastOff(c, Given.lengths(6, many, many), word);
                takesTheLastOff(c, Given.lengths(3, many, many).with(1 - word, NONE), word);
            }
        }
    }

    private static void takesTheLastOff(Checks c, Given given, int word) {
        List<Integer> letters = given.word(word);
        int last = letters.size() - 1;
        c.makes("untwist(" + word + ")", given, braid -> braid.untwist(word),
                letters.get(last), given.with(word, letters.subList(0, last)));
    }

    static void promise4ReturnsThisLetter(Checks c) {
        for (int word = 0; word <= 1; word++) {
            Given given = Given.full(6);
            BraidWords braid = given.braid();
            for (int place = 29; place >= 0; place--) {
                c.due("untwist at " + place, braid.untwist(word), given.word(word).get(place));
            }
        }
    }

    static void promise4ThrowsIndexOutOfBoundsIfWordIsNot0To1(Checks c) {
        for (int many : new int[] {1, 30}) {
            c.refusesEach("untwist", Given.lengths(3, many, many), Checks.INDEX, Wrong.WORDS, BraidWords::untwist);
        }
    }

    static void promise4ThrowsIllegalStateIfItIsEmpty(Checks c) {
        for (int word = 0; word <= 1; word++) {
            int w = word;
            c.refuses("untwist(" + w + ")", Given.empty(3), Checks.STATE, braid -> braid.untwist(w));
            c.refuses("untwist(" + w + ")", Given.full(3).with(w, NONE), Checks.STATE, braid -> braid.untwist(w));
            BraidWords braid = Given.lengths(3, 1, 1).braid();
            braid.untwist(w);
            c.refused("untwist of the one then", Checks.STATE, braid, () -> braid.untwist(w));
            BraidWords cleared = Given.full(3).braid();
            cleared.setRopes(3);
            c.refused("untwist behind setRopes", Checks.STATE, cleared, () -> cleared.untwist(w));
            BraidWords cut = Checks.braid(3, Checks.word(1, -1), Checks.word(-2, 2));
            cut.cut(w);
            c.refused("untwist behind cut", Checks.STATE, cut, () -> cut.untwist(w));
        }
    }

    static void promise4OfSeveralTheFirstIsThrown(Checks c) {
        c.refusesEach("untwist", Given.empty(3), Checks.INDEX, Wrong.WORDS, BraidWords::untwist);
        c.refusesEach("untwist", Given.lengths(3, 30, 0), Checks.INDEX, Wrong.WORDS, BraidWords::untwist);
        c.refusesEach("untwist", Given.lengths(3, 0, 30), Checks.INDEX, Wrong.WORDS, BraidWords::untwist);
    }

    static void promise4AThrowChangesNothing(Checks c) {
        c.throwAndStay(Given.empty(5), b -> b.untwist(0), b -> b.untwist(1), b -> b.untwist(2), b -> b.untwist(0));
        c.throwAndStay(Given.lengths(4, 0, 30), b -> b.untwist(0), b -> b.untwist(0), b -> b.untwist(-1));
        c.throwAndStay(Given.lengths(4, 30, 0), b -> b.untwist(1), b -> b.untwist(1), b -> b.untwist(2));
    }

    // ---- promise 5

    static void promise5TurnsAWordRound(Checks c) {
        for (int word = 0; word <= 1; word++) {
            for (int many : new int[] {0, 1, 2, 3, 29, 30}) {
                turnsRound(c, Given.lengths(6, many, many), word);
                turnsRound(c, Given.full(3).with(word, Given.row(3, many)), word);
                turnsRound(c, Given.empty(4).with(word, Given.row(4, many)), word);
            }
        }
    }

    private static void turnsRound(Checks c, Given given, int word) {
        List<Integer> then = new ArrayList<>();
        for (int letter : given.word(word)) {
            then.add(0, -letter);
        }
        c.makes("turn(" + word + ")", given, braid -> braid.turn(word), then.size(), given.with(word, then));
    }

    static void promise5ReturnsHowManyLettersItHas(Checks c) {
        for (int many = 0; many <= 30; many++) {
            c.due("turn of " + many, Given.lengths(3, many, 30).braid().turn(0), many);
            c.due("turn of " + many, Given.lengths(3, 0, many).braid().turn(1), many);
        }
    }

    static void promise5ThrowsIndexOutOfBoundsIfWordIsNot0To1(Checks c) {
        for (int many : new int[] {0, 1, 30}) {
            c.refusesEach("turn", Given.lengths(3, many, many), Checks.INDEX, Wrong.WORDS, BraidWords::turn);
        }
    }

    static void promise5AThrowChangesNothing(Checks c) {
        c.throwAndStay(Given.full(6), b -> b.turn(-1), b -> b.turn(2), b -> b.turn(2));
        c.throwAndStay(Given.lengths(3, 2, 0), b -> b.turn(2), b -> b.turn(-1), b -> b.turn(-1));
    }

    // ---- promise 6

    static void promise6AddsAllLettersOfTheOtherWord(Checks c) {
        int[][] manys = {{0, 0}, {0, 1}, {1, 0}, {0, 30}, {30, 0}, {29, 1}, {1, 29}, {15, 15}, {2, 3}};
        for (int[] many : manys) {
            for (int word = 0; word <= 1; word++) {
                int w = word;
                Given given = Given.of(6, w, Given.row(6, many[0]), BraidModel.turnedRound(Given.row(6, many[1])));
                List<Integer> then = BraidModel.oneBehindTheOther(given.word(w), given.word(1 - w));
                c.makes("join(" + w + ")", given, braid -> braid.join(w), then.size(), given.with(w, then));
            }
        }
    }

    static void promise6ReturnsHowManyLettersItHasThen(Checks c) {
        for (int many = 0; many <= 30; many++) {
            c.due("join to 30", Given.lengths(3, many, 30 - many).braid().join(0), 30);
            c.due("join to 30", Given.lengths(3, many, 30 - many).braid().join(1), 30);
            c.due("join of none", Given.lengths(3, many, 0).braid().join(0), many);
            c.due("join behind none", Given.lengths(3, many, 0).braid().join(1), many);
        }
    }

    static void promise6ThrowsIndexOutOfBoundsIfWordIsNot0To1(Checks c) {
        for (int many : new int[] {0, 1, 15}) {
            c.refusesEach("join", Given.lengths(3, many, many), Checks.INDEX, Wrong.WORDS, BraidWords::join);
        }
    }

    static void promise6ThrowsIllegalStateIfTheseWouldBeMoreThan30(Checks c) {
        for (int many = 1; many <= 30; many++) {
            Given to31 = Given.lengths(3, many, 31 - many);
            c.refuses("join(0) to 31", to31, Checks.STATE, braid -> braid.join(0));
            c.refuses("join(1) to 31", to31, Checks.STATE, braid -> braid.join(1));
        }
        for (int[] many : new int[][] {{30, 30}, {30, 29}, {2, 30}, {16, 16}}) {
            c.refuses("join(0)", Given.lengths(6, many[0], many[1]), Checks.STATE, braid -> braid.join(0));
            c.refuses("join(1)", Given.lengths(6, many[0], many[1]), Checks.STATE, braid -> braid.join(1));
        }
    }

    static void promise6OfSeveralTheFirstIsThrown(Checks c) {
        c.refusesEach("join", Given.full(3), Checks.INDEX, Wrong.WORDS, BraidWords::join);
        c.refusesEach("join", Given.lengths(3, 1, 30), Checks.INDEX, Wrong.WORDS, BraidWords::join);
        c.refusesEach("join", Given.lengths(3, 30, 1), Checks.INDEX, Wrong.WORDS, BraidWords::join);
    }

    static void promise6AThrowChangesNothing(Checks c) {
        c.throwAndStay(Given.full(6), b -> b.join(0), b -> b.join(1), b -> b.join(2), b -> b.join(-1), b -> b.join(0));
        c.throwAndStay(Given.lengths(3, 16, 15), b -> b.join(0), b -> b.join(1), b -> b.join(-1), b -> b.join(1));
    }
}
