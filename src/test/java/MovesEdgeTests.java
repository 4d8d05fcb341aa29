import java.util.ArrayList;
import java.util.Collections;
import java.util.List;

/** Each sentence of the promises 7 to 10 that names a boundary case. */
final class MovesEdgeTests {
    private static final List<Integer> NONE = List.of();

    private MovesEdgeTests() { }

    static void addTo(Tests tests) {
        tests.add("promise 7: Swaps a letter and the one behind it, whose heights differ by 2 or more",
                MovesEdgeTests::promise7SwapsTwoWhoseHeightsDifferBy2OrMore);
        tests.add("promise 7: Returns the letter that stands there then", MovesEdgeTests::promise7ReturnsTheLetterThatStandsThereThen);
        tests.add("promise 7: Throws IndexOutOfBoundsException if word is not 0 to 1",
                MovesEdgeTests::promise7ThrowsIndexOutOfBoundsIfWordIsNot0To1);
        tests.add("promise 7: Throws IndexOutOfBoundsException if there is no such place",
                MovesEdgeTests::promise7ThrowsIndexOutOfBoundsIfThereIsNoSuchPlace);
        tests.add("promise 7: Throws IndexOutOfBoundsException if there is none behind it",
                MovesEdgeTests::promise7ThrowsIndexOutOfBoundsIfThereIsNoneBehindIt);
        tests.add("promise 7: Throws IllegalStateException if their heights differ by less",
                MovesEdgeTests::promise7ThrowsIllegalStateIfTheirHeightsDifferByLess);
        tests.add("promise 7: If several exceptions apply, the one that is named first is thrown",
                MovesEdgeTests::promise7OfSeveralTheFirstIsThrown);
        tests.add("promise 7: A method that throws an exception changes nothing",
                MovesEdgeTests::promise7AThrowChangesNothing);
        tests.add("promise 8: Turns three letters about: of x, y, x with the same sign, whose heights differ by 1, to y, x, y",
                MovesEdgeTests::promise8TurnsThreeLettersAbout);
        tests.add("promise 8: Returns the letter that stands there then", MovesEdgeTests::promise8ReturnsTheLetterThatStandsThereThen);
        tests.add("promise 8: Throws IndexOutOfBoundsException if word is not 0 to 1",
                MovesEdgeTests::promise8ThrowsIndexOutOfBoundsIfWordIsNot0To1);
        tests.add("promise 8: Throws IndexOutOfBoundsException if there is no such place",
                MovesEdgeTests::promise8ThrowsIndexOutOfBoundsIfThereIsNoSuchPlace);
        tests.add("promise 8: Throws IndexOutOfBoundsException if there are no two behind it",
                MovesEdgeTests::promise8ThrowsIndexOutOfBoundsIfThereAreNoTwoBehindIt);
        tests.add("promise 8: Throws IllegalStateException if they are not so",
                MovesEdgeTests::promise8ThrowsIllegalStateIfTheyAreNotSo);
        tests.add("promise 8: If several exceptions apply, the one that is named first is thrown",
                MovesEdgeTests::promise8OfSeveralTheFirstIsThrown);
        tests.add("promise 8: A method that throws an exception changes nothing",
                MovesEdgeTests::promise8AThrowChangesNothing);
        tests.add("promise 9: Puts a letter and, behind it, the same one turned round into a word",
                MovesEdgeTests::promise9PutsALetterAndTheSameOneTurnedRound);
        tests.add("promise 9: Returns how many letters it has then", MovesEdgeTests::promise9ReturnsHowManyLettersItHasThen);
        tests.add("promise 9: Throws IndexOutOfBoundsException if word is not 0 to 1",
                MovesEdgeTests::promise9ThrowsIndexOutOfBoundsIfWordIsNot0To1);
        tests.add("promise 9: Throws IndexOutOfBoundsException if place is not 0 to as many letters as there are",
                MovesEdgeTests::promise9ThrowsIndexOutOfBoundsIfPlaceIsNot0ToAsManyLettersAsThereAre);
        tests.add("promise 9: Throws IllegalArgumentException if letter is 0, or its height is as many as the ropes or more",
                MovesEdgeTests::promise9ThrowsIllegalArgumentIfLetterIs0OrTooHigh);
        tests.add("promise 9: Throws IllegalStateException if there would be more than 30",
                MovesEdgeTests::promise9ThrowsIllegalStateIfThereWouldBeMoreThan30);
        tests.add("promise 9: If several exceptions apply, the one that is named first is thrown",
                MovesEdgeTests::promise9OfSeveralTheFirstIsThrown);
        tests.add("promise 9: A method that throws an exception changes nothing",
                MovesEdgeTests::promise9AThrowChangesNothing);
        tests.add("promise 10: Cuts the first handle of a word", MovesEdgeTests::promise10CutsTheFirstHandleOfAWord);
        tests.add("promise 10: Returns how many letters it has then", MovesEdgeTests::promise10ReturnsHowManyLettersItHasThen);
        tests.add("promise 10: Throws IndexOutOfBoundsException if word is not 0 to 1",
                MovesEdgeTests::promise10ThrowsIndexOutOfBoundsIfWordIsNot0To1);
        tests.add("promise 10: Throws IllegalStateException if it has none", MovesEdgeTests::promise10ThrowsIllegalStateIfItHasNone);
        tests.add("promise 10: Throws IllegalStateException if it would have more than 30 letters",
                MovesEdgeTests::promise10ThrowsIllegalStateIfItWouldHaveMoreThan30Letters);
        tests.add("promise 10: If several exceptions apply, the one that is named first is thrown",
                MovesEdgeTests::promise10OfSeveralTheFirstIsThrown);
        tests.add("promise 10: A method that throws an exception changes nothing",
                MovesEdgeTests::promise10AThrowChangesNothing);
    }

    // ---- promise 7

    static void promise7SwapsTwoWhoseHeightsDifferBy2OrMore(Checks c) {
        for (int left = -5; left <= 5; left++) {
            for (int right = -5; right <= 5; right++) {
                if (left != 0 && right != 0 && Math.abs(Math.abs(left) - Math.abs(right)) >= 2) {
                    swaps(c, 0, Checks.word(left, right), 0);
                    swaps(c, 1, Checks.word(left, right), 0);
                }
            }
        }
        // The first place and the last one that has one behind it, in a full word too.
        for (int many : new int[] {2, 3, 29, 30}) {
            List<Integer> row = Checks.repeated(15, 1, -3).subList(0, many);
            for (int place : new int[] {0, many - 2}) {
                swaps(c, 0, row, place);
                swaps(c, 1, row, place);
            }
        }
    }

    private static void swaps(Checks c, int word, List<Integer> letters, int place) {
        List<Integer> then = new ArrayList<>(letters);
        Collections.swap(then, place, place + 1);
        for (List<Integer> others : List.of(NONE, Given.row(6, 30))) {
            Given given = Given.of(6, word, letters, others);
            c.makes("swap(" + word + ", " + place + ")", given, braid -> braid.swap(word, place),
                    then.get(place), given.with(word, then));
        }
    }

    static void promise7ReturnsTheLetterThatStandsThereThen(Checks c) {
        c.due("swap of 1 -3", Checks.braid(4, Checks.word(1, -3), NONE).swap(0, 0), -3);
        c.due("swap of -3 1", Checks.braid(4, NONE, Checks.word(-3, 1)).swap(1, 0), 1);
        BraidWords full = Checks.braid(6, Checks.repeated(15, 2, 5), NONE);
        c.due("swap of the last two", full.swap(0, 28), 5);
        c.due("swap of the last two again", full.swap(0, 28), 2);
    }

    static void promise7ThrowsIndexOutOfBoundsIfWordIsNot0To1(Checks c) {
        Given given = new Given(4, Checks.word(1, 3), Checks.word(-3, 1));
        c.refusesEach("swap", given, Checks.INDEX, Wrong.WORDS, (braid, w) -> braid.swap(w, 0));
    }

    static void promise7ThrowsIndexOutOfBoundsIfThereIsNoSuchPlace(Checks c) {
        for (int many : new int[] {0, 1, 2, 3, 29, 30}) {
            for (int word = 0; word <= 1; word++) {
                int w = word;
                for (int others : new int[] {0, 30}) {
                    Given given = Given.of(4, w, swappable(many), swappable(others));
                    c.refusesEach("swap", given, Checks.INDEX, Wrong.numbers(many), (braid, place) -> braid.swap(w, place));
                }
            }
        }
    }

    static void promise7ThrowsIndexOutOfBoundsIfThereIsNoneBehindIt(Checks c) {
        for (int many : new int[] {1, 2, 3, 29, 30}) {
            for (int others : new int[] {0, 30}) {
                c.refuses("swap", new Given(4, swappable(many), swappable(others)), Checks.INDEX,
                        braid -> braid.swap(0, many - 1));
                c.refuses("swap", new Given(4, swappable(others), swappable(many)), Checks.INDEX,
                        braid -> braid.swap(1, many - 1));
            }
        }
        BraidWords shorter = Checks.braid(4, Checks.word(1, 3, 1), NONE);
        shorter.untwist(0);
        c.refused("swap behind untwist", Checks.INDEX, shorter, () -> shorter.swap(0, 1));
    }

    private static List<Integer> swappable(int many) {
        return Checks.repeated(15, 1, 3).subList(0, many);
    }

    static void promise7ThrowsIllegalStateIfTheirHeightsDifferByLess(Checks c) {
        for (int left = -5; left <= 5; left++) {
            for (int right = -5; right <= 5; right++) {
                if (left != 0 && right != 0 && Math.abs(Math.abs(left) - Math.abs(right)) < 2) {
                    Given given = new Given(6, Checks.word(left, right), Checks.word(right, left));
                    c.refuses("swap(0, 0)", given, Checks.STATE, braid -> braid.swap(0, 0));
                    c.refuses("swap(1, 0)", given, Checks.STATE, braid -> braid.swap(1, 0));
                }
            }
        }
        Given full = new Given(4, Checks.repeated(15, 1, -2), Checks.repeated(30, 3));
        c.refusesEach("swap of word 0", full, Checks.STATE, new int[] {0, 1, 27, 28}, (braid, place) -> braid.swap(0, place));
        c.refusesEach("swap of word 1", full, Checks.STATE, new int[] {0, 1, 27, 28}, (braid, place) -> braid.swap(1, place));
    }

    static void promise7OfSeveralTheFirstIsThrown(Checks c) {
        Given alike = new Given(4, Checks.repeated(3, 2), Checks.word(2, -2, 2));
        c.refusesEach("swap of like ones", alike, Checks.INDEX, Wrong.WORDS, (braid, w) -> braid.swap(w, 0));
        c.refusesEach("swap at no place", alike, Checks.INDEX, Wrong.WORDS, (braid, w) -> braid.swap(w, 3));
        c.refusesEach("swap of like ones", alike, Checks.INDEX, Wrong.numbers(3), (braid, place) -> braid.swap(0, place));
        c.refuses("swap with none behind it", alike, Checks.INDEX, braid -> braid.swap(1, 2));
        c.refuses("swap in an empty word", Given.empty(3), Checks.INDEX, braid -> braid.swap(0, 0));
    }

    static void promise7AThrowChangesNothing(Checks c) {
        Given given = new Given(4, Checks.word(1, 2, -3), Checks.repeated(30, 1));
        c.throwAndStay(given, b -> b.swap(0, 0), b -> b.swap(0, 1), b -> b.swap(0, 2), b -> b.swap(0, 3),
                b -> b.swap(0, -1), b -> b.swap(1, 28), b -> b.swap(1, 29), b -> b.swap(2, 0), b -> b.swap(-1, 0));
    }

    // ---- promise 8

    static void promise8TurnsThreeLettersAbout(Checks c) {
        for (int x = -5; x <= 5; x++) {
            for (int y = -5; y <= 5; y++) {
                if (x * y > 0 && Math.abs(x - y) == 1) {
                    turnsAbout(c, 0, Checks.word(x, y, x), 0);
                    turnsAbout(c, 1, Checks.word(x, y, x), 0);
                }
            }
        }
        // The first place and the last one that has two behind it, in a full word too.
        for (int many : new int[] {3, 4, 29, 30}) {
            List<Integer> row = Checks.repeated(15, -2, -3).subList(0, many);
            for (int place : new int[] {0, many - 3}) {
                turnsAbout(c, 0, row, place);
                turnsAbout(c, 1, row, place);
            }
        }
    }

    private static void turnsAbout(Checks c, int word, List<Integer> letters, int place) {
        int x = letters.get(place);
        int y = letters.get(place + 1);
        List<Integer> then = new ArrayList<>(letters);
        then.set(place, y);
        then.set(place + 1, x);
        then.set(place + 2, y);
        for (List<Integer> others : List.of(NONE, Given.row(6, 30))) {
            Given given = Given.of(6, word, letters, others);
            c.makes("about(" + word + ", " + place + ")", given, braid -> braid.about(word, place),
                    y, given.with(word, then));
        }
    }

    static void promise8ReturnsTheLetterThatStandsThereThen(Checks c) {
        c.due("about of 1 2 1", Checks.braid(3, Checks.word(1, 2, 1), NONE).about(0, 0), 2);
        c.due("about of -5 -4 -5", Checks.braid(6, NONE, Checks.word(-5, -4, -5)).about(1, 0), -4);
        BraidWords full = Checks.braid(6, Checks.repeated(15, 3, 4), NONE);
        c.due("about of the last three", full.about(0, 27), 3);
        c.due("about of the last three again", full.about(0, 27), 4);
    }

    static void promise8ThrowsIndexOutOfBoundsIfWordIsNot0To1(Checks c) {
        Given given = new Given(3, Checks.word(1, 2, 1), Checks.word(-2, -1, -2));
        c.refusesEach("about", given, Checks.INDEX, Wrong.WORDS, (braid, w) -> braid.about(w, 0));
    }

    static void promise8ThrowsIndexOutOfBoundsIfThereIsNoSuchPlace(Checks c) {
        for (int many : new int[] {0, 1, 2, 3, 4, 29, 30}) {
            for (int word = 0; word <= 1; word++) {
                int w = word;
                for (int others : new int[] {0, 30}) {
                    Given given = Given.of(3, w, turnable(many), turnable(others));
                    c.refusesEach("about", given, Checks.INDEX, Wrong.numbers(many), (braid, place) -> braid.about(w, place));
                }
            }
        }
    }

    static void promise8ThrowsIndexOutOfBoundsIfThereAreNoTwoBehindIt(Checks c) {
        for (int many : new int[] {1, 2, 3, 4, 29, 30}) {
            for (int place = Math.max(0, many - 2); place < many; place++) {
                int p = place;
                for (int others : new int[] {0, 30}) {
                    c.refuses("about", new Given(3, turnable(many), turnable(others)), Checks.INDEX,
                            braid -> braid.about(0, p));
                    c.refuses("about", new Given(3, turnable(others), turnable(many)), Checks.INDEX,
                            braid -> braid.about(1, p));
                }
            }
        }
        BraidWords shorter = Checks.braid(3, Checks.word(1, 2, 1), NONE);
        shorter.untwist(0);
        c.refused("about behind untwist", Checks.INDEX, shorter, () -> shorter.about(0, 0));
    }

    private static List<Integer> turnable(int many) {
        return Checks.repeated(15, 1, 2).subList(0, many);
    }

    static void promise8ThrowsIllegalStateIfTheyAreNotSo(Checks c) {
        int[] letters = {-3, -2, -1, 1, 2, 3};
        for (int first : letters) {
            for (int second : letters) {
                for (int third : letters) {
                    boolean so = first == third && first * second > 0 && Math.abs(first - second) == 1;
                    if (!so) {
                        Given given = new Given(4, Checks.word(first, second, third), Checks.word(first, second, third));
                        c.refuses("about(0, 0)", given, Checks.STATE, braid -> braid.about(0, 0));
                        c.refuses("about(1, 0)", given, Checks.STATE, braid -> braid.about(1, 0));
                    }
                }
            }
        }
        Given full = new Given(6, Checks.repeated(15, 1, -2), Checks.repeated(10, 1, 3, 5));
        c.refusesEach("about of word 0", full, Checks.STATE, new int[] {0, 1, 26, 27}, (braid, place) -> braid.about(0, place));
        c.refusesEach("about of word 1", full, Checks.STATE, new int[] {0, 1, 26, 27}, (braid, place) -> braid.about(1, place));
    }

    static void promise8OfSeveralTheFirstIsThrown(Checks c) {
        Given alike = new Given(4, Checks.repeated(4, 2), Checks.word(2, 3, -2, 1));
        c.refusesEach("about of like ones", alike, Checks.INDEX, Wrong.WORDS, (braid, w) -> braid.about(w, 0));
        c.refusesEach("about at no place", alike, Checks.INDEX, Wrong.WORDS, (braid, w) -> braid.about(w, 4));
        c.refusesEach("about of like ones", alike, Checks.INDEX, Wrong.numbers(4), (braid, place) -> braid.about(0, place));
        c.refuses("about with one behind it", alike, Checks.INDEX, braid -> braid.about(1, 2));
        c.refuses("about with none behind it", alike, Checks.INDEX, braid -> braid.about(0, 3));
        c.refuses("about in an empty word", Given.empty(3), Checks.INDEX, braid -> braid.about(1, 0));
    }

    static void promise8AThrowChangesNothing(Checks c) {
        Given given = new Given(4, Checks.word(1, 2, -1, 2), Checks.repeated(15, 1, 3));
        c.throwAndStay(given, b -> b.about(0, 0), b -> b.about(0, 1), b -> b.about(0, 2), b -> b.about(0, 3),
                b -> b.about(0, -1), b -> b.about(1, 27), b -> b.about(1, 28), b -> b.about(1, 30),
                b -> b.about(2, 0), b -> b.about(-1, 0));
    }

    // ---- promise 9

    static void promise9PutsALetterAndTheSameOneTurnedRound(Checks c) {
        for (int ropes = 3; ropes <= 6; ropes++) {
            for (int many : new int[] {0, 1, 2, 27, 28}) {
                for (int place : new int[] {0, many / 2, many}) {
                    for (int letter : new int[] {1, -1, ropes - 1, 1 - ropes}) {
                        puts(c, Given.lengths(ropes, many, 30), 0, place, letter);
                        puts(c, Given.lengths(ropes, 0, many), 1, place, letter);
                    }
                }
            }
        }
    }

    private static void puts(Checks c, Given given, int word, int place, int letter) {
        List<Integer> then = new ArrayList<>(given.word(word));
        then.add(place, letter);
        then.add(place + 1, -letter);
        c.makes("insert(" + word + ", " + place + ", " + letter + ")", given,
                braid -> braid.insert(word, place, letter), then.size(), given.with(word, then));
    }

    static void promise9ReturnsHowManyLettersItHasThen(Checks c) {
        BraidWords braid = new BraidWords();
        for (int many = 2; many <= 30; many += 2) {
            c.due("insert into word 0", braid.insert(0, many - 2, 1), many);
            c.due("insert into word 1", braid.insert(1, 0, -2), many);
        }
        c.due("insert to 29", Given.lengths(3, 27, 30).braid().insert(0, 13, 2), 29);
    }

    static void promise9ThrowsIndexOutOfBoundsIfWordIsNot0To1(Checks c) {
        for (int many : new int[] {0, 28}) {
            Given given = Given.lengths(3, many, many);
            c.refusesEach("insert", given, Checks.INDEX, Wrong.WORDS, (braid, w) -> braid.insert(w, 0, 1));
        }
    }

    static void promise9ThrowsIndexOutOfBoundsIfPlaceIsNot0ToAsManyLettersAsThereAre(Checks c) {
        for (int many : new int[] {0, 1, 2, 27, 28}) {
            for (int others : new int[] {0, 30}) {
                Given.CallOfOne insert0 = (braid, place) -> braid.insert(0, place, 1);
                Given.CallOfOne insert1 = (braid, place) -> braid.insert(1, place, -1);
                int[] wrongs = Wrong.numbers(many + 1);
                c.refusesEach("insert", Given.lengths(4, many, others), Checks.INDEX, wrongs, insert0);
                c.refusesEach("insert", Given.lengths(4, others, many), Checks.INDEX, wrongs, insert1);
            }
        }
    }

    static void promise9ThrowsIllegalArgumentIfLetterIs0OrTooHigh(Checks c) {
        for (int ropes = 3; ropes <= 6; ropes++) {
            for (int many : new int[] {0, 28}) {
                Given given = Given.lengths(ropes, many, many);
                int[] wrongs = Wrong.letters(ropes);
                c.refusesEach("insert at 0", given, Checks.ARGUMENT, wrongs, (braid, letter) -> braid.insert(0, 0, letter));
                c.refusesEach("insert at the end", given, Checks.ARGUMENT, wrongs,
                        (braid, letter) -> braid.insert(1, many, letter));
            }
        }
    }

    static void promise9ThrowsIllegalStateIfThereWouldBeMoreThan30(Checks c) {
        for (int many : new int[] {29, 30}) {
            for (int others : new int[] {0, 30}) {
                for (int place : new int[] {0, 15, many}) {
                    c.refuses("insert", Given.lengths(6, many, others), Checks.STATE, braid -> braid.insert(0, place, 5));
                    c.refuses("insert", Given.lengths(3, others, many), Checks.STATE, braid -> braid.insert(1, place, -1));
                }
            }
        }
        c.due("insert to 30", Given.lengths(3, 28, 30).braid().insert(0, 28, 1), 30);
        c.due("insert to 30", Given.lengths(3, 30, 28).braid().insert(1, 0, 1), 30);
    }

    static void promise9OfSeveralTheFirstIsThrown(Checks c) {
        for (int wrong : new int[] {-1, 2}) {
            c.refuses("word and place", Given.empty(3), Checks.INDEX, braid -> braid.insert(wrong, 1, 1));
            c.refuses("word and letter", Given.empty(3), Checks.INDEX, braid -> braid.insert(wrong, 0, 0));
            c.refuses("word and 30", Given.full(3), Checks.INDEX, braid -> braid.insert(wrong, 0, 1));
            c.refuses("all four", Given.full(3), Checks.INDEX, braid -> braid.insert(wrong, 31, 3));
        }
        for (int word = 0; word <= 1; word++) {
            int w = word;
            int[] noPlaces = Wrong.numbers(31);
            int[] noLetters = Wrong.letters(3);
            c.refusesEach("place and letter", Given.empty(3), Checks.INDEX, Wrong.numbers(1), (b, p) -> b.insert(w, p, 0));
            c.refusesEach("place and letter", Given.empty(3), Checks.INDEX, Wrong.numbers(1), (b, p) -> b.insert(w, p, 3));
            c.refusesEach("place and 30", Given.full(3), Checks.INDEX, noPlaces, (b, p) -> b.insert(w, p, 1));
            c.refusesEach("place, letter and 30", Given.full(3), Checks.INDEX, noPlaces, (b, p) -> b.insert(w, p, -3));
            c.refusesEach("letter and 30", Given.full(3), Checks.ARGUMENT, noLetters, (b, l) -> b.insert(w, 0, l));
            c.refusesEach("letter and 31", Given.lengths(3, 29, 29), Checks.ARGUMENT, noLetters, (b, l) -> b.insert(w, 29, l));
        }
    }

    static void promise9AThrowChangesNothing(Checks c) {
        c.throwAndStay(Given.lengths(4, 29, 30), b -> b.insert(0, 0, 1), b -> b.insert(1, 30, -1), b -> b.insert(0, 30, 1),
                b -> b.insert(0, -1, 1), b -> b.insert(0, 0, 0), b -> b.insert(1, 3, 4), b -> b.insert(2, 0, 1));
        c.throwAndStay(Given.lengths(3, 0, 28), b -> b.insert(0, 1, 1), b -> b.insert(1, 29, 1), b -> b.insert(0, 0, 3),
                b -> b.insert(1, 28, -3), b -> b.insert(-1, 0, 1));
    }

    // ---- promise 10

    static void promise10CutsTheFirstHandleOfAWord(Checks c) {
        // Nothing between, and nothing at all behind the cut.
        cuts(c, 3, Checks.word(1, -1), NONE);
        cuts(c, 6, Checks.word(-5, 5), NONE);
        // The least and the greatest height: none below the one, and no letter above the other.
        cuts(c, 3, Checks.word(1, -2, -1), Checks.word(-2, -1, 2));
        cuts(c, 3, Checks.word(-1, 2, 1), Checks.word(2, 1, -2));
        cuts(c, 6, Checks.word(5, 1, -3, -5), Checks.word(1, -3));
        // From the first place to the last one of a full word.
        cuts(c, 6, around(5, Checks.repeated(28, 3)), Checks.repeated(28, 3));
        // The first one ends first, wherever it begins.
        cuts(c, 3, Checks.word(1, 2, -2, -1), Checks.word(1, -1));
        cuts(c, 4, Checks.word(3, 1, -3, -1), Checks.word(1, -1));
        cuts(c, 3, Checks.word(1, -1, 2, -2), Checks.word(2, -2));
    }

    private static void cuts(Checks c, int ropes, List<Integer> word, List<Integer> due) {
        for (List<Integer> others : List.of(NONE, Given.row(ropes, 30))) {
            for (int w = 0; w <= 1; w++) {
                int at = w;
                Given given = Given.of(ropes, at, word, others);
                c.makes("cut(" + at + ")", given, braid -> braid.cut(at), due.size(), given.with(at, due));
            }
        }
    }

    private static List<Integer> around(int letter, List<Integer> between) {
        List<Integer> word = new ArrayList<>(Checks.word(letter));
        word.addAll(between);
        word.add(-letter);
        return word;
    }

    static void promise10ReturnsHowManyLettersItHasThen(Checks c) {
        c.due("cut of 2", Checks.braid(3, Checks.word(1, -1), NONE).cut(0), 0);
        c.due("cut of 3", Checks.braid(3, NONE, Checks.word(1, 2, -1)).cut(1), 3);
        c.due("cut of 30 to 28", Checks.braid(3, firstHandleThenMore(0, 30), NONE).cut(0), 28);
        c.due("cut of 30 to 30", Checks.braid(3, firstHandleThenMore(1, 30), NONE).cut(0), 30);
        c.due("cut of 28 to 30", Checks.braid(3, NONE, firstHandleThenMore(2, 28)).cut(1), 30);
        c.due("cut of 16 to 30", Checks.braid(3, NONE, firstHandleThenMore(8, 16)).cut(1), 30);
    }

    static void promise10ThrowsIndexOutOfBoundsIfWordIsNot0To1(Checks c) {
        Given given = new Given(3, Checks.word(1, -1), Checks.word(-2, 2));
        c.refusesEach("cut", given, Checks.INDEX, Wrong.WORDS, BraidWords::cut);
    }

    static void promise10ThrowsIllegalStateIfItHasNone(Checks c) {
        for (List<Integer> word : List.of(NONE, Checks.word(1), Checks.word(-5), Checks.word(1, 1), Checks.word(1, 2),
                Checks.word(2, 1, -2), Checks.word(-5, 4, 5), Checks.word(3, -2, 1, -3), Checks.repeated(30, 1),
                Checks.repeated(15, 2, 1), Checks.repeated(15, -4, 5))) {
            for (List<Integer> others : List.of(NONE, Checks.word(1, -1))) {
                c.refuses("cut(0)", new Given(6, word, others), Checks.STATE, braid -> braid.cut(0));
                c.refuses("cut(1)", new Given(6, others, word), Checks.STATE, braid -> braid.cut(1));
            }
        }
    }

    static void promise10ThrowsIllegalStateIfItWouldHaveMoreThan30Letters(Checks c) {
        int[][] rises = {{2, 29}, {2, 30}, {3, 27}, {3, 30}, {14, 16}, {15, 17}, {27, 30}, {28, 30}, {27, 29}};
        for (int[] rise : rises) {
            List<Integer> word = firstHandleThenMore(rise[0], rise[1]);
            int to = rise[1] + 2 * rise[0] - 2;
            c.refuses("cut(0) to " + to, new Given(3, word, NONE), Checks.STATE, braid -> braid.cut(0));
            c.refuses("cut(1) to " + to, new Given(3, NONE, word), Checks.STATE, braid -> braid.cut(1));
        }
        for (int[] rise : new int[][] {{1, 30}, {2, 28}, {8, 16}}) {
            List<Integer> word = firstHandleThenMore(rise[0], rise[1]);
            c.due("cut to 30", new Given(3, word, NONE).braid().cut(0), 30);
            c.due("cut to 30", new Given(3, NONE, word).braid().cut(1), 30);
        }
    }

    /** A word of so many letters, which begins with a handle that grows by 2 for each of its letters 2 but one. */
    private static List<Integer> firstHandleThenMore(int twos, int many) {
        List<Integer> word = around(1, Checks.repeated(twos, 2));
        return BraidModel.oneBehindTheOther(word, Checks.repeated(many - word.size(), 2));
    }

    static void promise10OfSeveralTheFirstIsThrown(Checks c) {
        c.refusesEach("cut of none", Given.empty(3), Checks.INDEX, Wrong.WORDS, BraidWords::cut);
        Given over30 = new Given(3, firstHandleThenMore(2, 30), firstHandleThenMore(28, 30));
        c.refusesEach("cut to over 30", over30, Checks.INDEX, Wrong.WORDS, BraidWords::cut);
    }

    static void promise10AThrowChangesNothing(Checks c) {
        Given over30 = new Given(3, firstHandleThenMore(2, 29), firstHandleThenMore(28, 30));
        c.throwAndStay(over30, b -> b.cut(0), b -> b.cut(1), b -> b.cut(2), b -> b.cut(-1), b -> b.cut(0));
        c.throwAndStay(new Given(4, Checks.repeated(30, 3), NONE), b -> b.cut(0), b -> b.cut(1), b -> b.cut(2));
    }
}
