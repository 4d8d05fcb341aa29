import java.util.ArrayList;
import java.util.Collections;
import java.util.List;

/** Each sentence of the promises 11 to 15 that names a boundary case. */
final class ThereEdgeTests {
    private static final List<Integer> NONE = List.of();

    private ThereEdgeTests() { }

    static void addTo(Tests tests) {
        tests.add("promise 11: Returns the letter there", ThereEdgeTests::promise11ReturnsTheLetterThere);
        tests.add("promise 11: Throws IndexOutOfBoundsException if word is not 0 to 1",
                ThereEdgeTests::promise11ThrowsIndexOutOfBoundsIfWordIsNot0To1);
        tests.add("promise 11: Throws IndexOutOfBoundsException if there is no such place",
                ThereEdgeTests::promise11ThrowsIndexOutOfBoundsIfThereIsNoSuchPlace);
        tests.add("promise 11: A method that throws an exception changes nothing",
                ThereEdgeTests::promise11AThrowChangesNothing);
        tests.add("promise 12: 0 the ropes", ThereEdgeTests::promise12TellsTheRopes);
        tests.add("promise 12: 1 and 2 letters of the word 0 and of 1", ThereEdgeTests::promise12TellsTheLetters);
        tests.add("promise 12: 3 and 4 the signs of all letters of each, 1 or -1, added",
                ThereEdgeTests::promise12TellsTheSignsAdded);
        tests.add("promise 12: Throws IndexOutOfBoundsException if what is not 0 to 4",
                ThereEdgeTests::promise12ThrowsIndexOutOfBoundsIfWhatIsNot0To4);
        tests.add("promise 12: A method that throws an exception changes nothing",
                ThereEdgeTests::promise12AThrowChangesNothing);
        tests.add("promise 13: Returns the place at which it hangs at the end",
                ThereEdgeTests::promise13ReturnsThePlaceAtWhichItHangsAtTheEnd);
        tests.add("promise 13: Throws IndexOutOfBoundsException if word is not 0 to 1",
                ThereEdgeTests::promise13ThrowsIndexOutOfBoundsIfWordIsNot0To1);
        tests.add("promise 13: Throws IndexOutOfBoundsException if there is no such rope",
                ThereEdgeTests::promise13ThrowsIndexOutOfBoundsIfThereIsNoSuchRope);
        tests.add("promise 13: A method that throws an exception changes nothing",
                ThereEdgeTests::promise13AThrowChangesNothing);
        tests.add("promise 14: Returns the signs of all letters by which these two cross, 1 or -1, added",
                ThereEdgeTests::promise14ReturnsTheSignsOfAllLettersByWhichTheseTwoCross);
        tests.add("promise 14: whichever hangs on the left then", ThereEdgeTests::promise14WhicheverHangsOnTheLeftThen);
        tests.add("promise 14: Throws IndexOutOfBoundsException if word is not 0 to 1",
                ThereEdgeTests::promise14ThrowsIndexOutOfBoundsIfWordIsNot0To1);
        tests.add("promise 14: Throws IndexOutOfBoundsException if there is no such rope",
                ThereEdgeTests::promise14ThrowsIndexOutOfBoundsIfThereIsNoSuchRope);
        tests.add("promise 14: Throws IllegalArgumentException if both are the same",
                ThereEdgeTests::promise14ThrowsIllegalArgumentIfBothAreTheSame);
        tests.add("promise 14: If several exceptions apply, the one that is named first is thrown",
                ThereEdgeTests::promise14OfSeveralTheFirstIsThrown);
        tests.add("promise 14: A method that throws an exception changes nothing",
                ThereEdgeTests::promise14AThrowChangesNothing);
        tests.add("promise 15: 0 the place of its first letter, 1 that of its last one",
                ThereEdgeTests::promise15TellsThePlacesOfItsFirstLetterAndItsLastOne);
        tests.add("promise 15: 2 how many letters there would be more behind cutting it (less than 0, if fewer)",
                ThereEdgeTests::promise15TellsHowManyLettersThereWouldBeMore);
        tests.add("promise 15: -1, -1 and 0 without any", ThereEdgeTests::promise15TellsThatThereIsNone);
        tests.add("promise 15: Throws IndexOutOfBoundsException if word is not 0 to 1",
                ThereEdgeTests::promise15ThrowsIndexOutOfBoundsIfWordIsNot0To1);
        tests.add("promise 15: Throws IndexOutOfBoundsException if what is not 0 to 2",
                ThereEdgeTests::promise15ThrowsIndexOutOfBoundsIfWhatIsNot0To2);
        tests.add("promise 15: A method that throws an exception changes nothing",
                ThereEdgeTests::promise15AThrowChangesNothing);
    }

    // ---- promise 11

    static void promise11ReturnsTheLetterThere(Checks c) {
        for (int many : new int[] {1, 2, 29, 30}) {
            Given given = Given.lengths(6, many, many);
            for (int word = 0; word <= 1; word++) {
                for (int place : new int[] {0, many / 2, many - 1}) {
                    int w = word;
                    c.tells("letter(" + w + ", " + place + ")", given, braid -> braid.letter(w, place),
                            given.word(w).get(place));
                }
            }
        }
    }

    static void promise11ThrowsIndexOutOfBoundsIfWordIsNot0To1(Checks c) {
        for (int many : new int[] {0, 1, 30}) {
            Given given = Given.lengths(3, many, many);
            c.refusesEach("letter", given, Checks.INDEX, Wrong.WORDS, (braid, w) -> braid.letter(w, 0));
        }
    }

    static void promise11ThrowsIndexOutOfBoundsIfThereIsNoSuchPlace(Checks c) {
        for (int many : new int[] {0, 1, 2, 29, 30}) {
            for (int others : new int[] {0, 30}) {
                int[] wrongs = Wrong.numbers(many);
                c.refusesEach("letter", Given.lengths(3, many, others), Checks.INDEX, wrongs, (b, p) -> b.letter(0, p));
                c.refusesEach("letter", Given.lengths(3, others, many), Checks.INDEX, wrongs, (b, p) -> b.letter(1, p));
            }
        }
        BraidWords braid = Given.full(3).braid();
        braid.untwist(0);
        c.refused("letter behind untwist", Checks.INDEX, braid, () -> braid.letter(0, 29));
        braid.setRopes(3);
        c.refused("letter behind setRopes", Checks.INDEX, braid, () -> braid.letter(1, 0));
        BraidWords cut = Checks.braid(3, Checks.word(1, -1, 2), NONE);
        cut.cut(0);
        c.refused("letter behind cut", Checks.INDEX, cut, () -> cut.letter(0, 1));
    }

    static void promise11AThrowChangesNothing(Checks c) {
        c.throwAndStay(Given.lengths(4, 30, 1), b -> b.letter(0, 30), b -> b.letter(0, -1), b -> b.letter(1, 1),
                b -> b.letter(2, 0), b -> b.letter(-1, 0));
    }

    // ---- promise 12

    static void promise12TellsTheRopes(Checks c) {
        c.due("count(0) of a new one", new BraidWords().count(0), 3);
        for (int ropes = 3; ropes <= 6; ropes++) {
            c.tells("count(0)", Given.empty(ropes), braid -> braid.count(0), ropes);
            c.tells("count(0)", Given.full(ropes), braid -> braid.count(0), ropes);
        }
    }

    static void promise12TellsTheLetters(Checks c) {
        for (int many : new int[] {0, 1, 29, 30}) {
            for (int others : new int[] {0, 1, 30}) {
                c.tells("count(1)", Given.lengths(5, many, others), braid -> braid.count(1), many);
                c.tells("count(2)", Given.lengths(5, many, others), braid -> braid.count(2), others);
            }
        }
    }

    static void promise12TellsTheSignsAdded(Checks c) {
        countsSigns(c, NONE, 0);
        countsSigns(c, Checks.word(5), 1);
        countsSigns(c, Checks.word(-5), -1);
        countsSigns(c, Checks.word(-4, 1), 0);
        countsSigns(c, Checks.repeated(30, 2), 30);
        countsSigns(c, Checks.repeated(30, -2), -30);
        countsSigns(c, Checks.repeated(15, -1, 5), 0);
        countsSigns(c, Checks.repeated(10, 3, -1, -1), -10);
    }

    private static void countsSigns(Checks c, List<Integer> word, int due) {
        for (List<Integer> others : List.of(NONE, Checks.repeated(30, 1))) {
            c.tells("count(3)", new Given(6, word, others), braid -> braid.count(3), due);
            c.tells("count(4)", new Given(6, others, word), braid -> braid.count(4), due);
        }
    }

    static void promise12ThrowsIndexOutOfBoundsIfWhatIsNot0To4(Checks c) {
        c.refusesEach("count", Given.empty(3), Checks.INDEX, Wrong.numbers(5), BraidWords::count);
        c.refusesEach("count", Given.full(6), Checks.INDEX, Wrong.numbers(5), BraidWords::count);
    }

    static void promise12AThrowChangesNothing(Checks c) {
        c.throwAndStay(Given.full(5), b -> b.count(-1), b -> b.count(5), b -> b.count(6), b -> b.count(-1));
    }

    // ---- promise 13

    static void promise13ReturnsThePlaceAtWhichItHangsAtTheEnd(Checks c) {
        for (int ropes = 3; ropes <= 6; ropes++) {
            int last = ropes - 1;
            ends(c, ropes, NONE, hungUp(ropes));
            // The first two, and the last two, whichever of them goes over.
            for (int height : new int[] {1, last}) {
                List<Integer> due = hungUp(ropes);
                Collections.swap(due, height - 1, height);
                ends(c, ropes, Checks.word(height), due);
                ends(c, ropes, Checks.word(-height), due);
            }
            // The first rope goes to the last place, and all others one to the left.
            List<Integer> across = new ArrayList<>();
            List<Integer> due = new ArrayList<>(Checks.word(last));
            for (int height = 1; height <= last; height++) {
                across.add(height);
                due.add(height - 1);
            }
            ends(c, ropes, across, due);
            ends(c, ropes, Checks.repeated(30, last), hungUp(ropes));
        }
        // A full word: 1 2 turns three ropes round by one place, and 15 times is as good as none.
        ends(c, 3, Checks.repeated(15, 1, 2), Checks.word(0, 1, 2));
        ends(c, 3, Checks.repeated(15, 1, -2).subList(0, 28), Checks.word(1, 2, 0));
    }

    private static List<Integer> hungUp(int ropes) {
        List<Integer> places = new ArrayList<>();
        for (int rope = 0; rope < ropes; rope++) {
            places.add(rope);
        }
        return places;
    }

    private static void ends(Checks c, int ropes, List<Integer> word, List<Integer> due) {
        for (List<Integer> others : List.of(NONE, Given.row(ropes, 29))) {
            for (int rope = 0; rope < ropes; rope++) {
                int at = rope;
                c.tells("end(0, " + at + ")", new Given(ropes, word, others), braid -> braid.end(0, at), due.get(at));
                c.tells("end(1, " + at + ")", new Given(ropes, others, word), braid -> braid.end(1, at), due.get(at));
            }
        }
    }

    static void promise13ThrowsIndexOutOfBoundsIfWordIsNot0To1(Checks c) {
        for (int many : new int[] {0, 30}) {
            Given given = Given.lengths(3, many, many);
            c.refusesEach("end", given, Checks.INDEX, Wrong.WORDS, (braid, w) -> braid.end(w, 0));
        }
    }

    static void promise13ThrowsIndexOutOfBoundsIfThereIsNoSuchRope(Checks c) {
        for (int ropes = 3; ropes <= 6; ropes++) {
            for (int many : new int[] {0, 30}) {
                Given given = Given.lengths(ropes, many, many);
                int[] wrongs = Wrong.numbers(ropes);
                c.refusesEach("end of word 0", given, Checks.INDEX, wrongs, (braid, rope) -> braid.end(0, rope));
                c.refusesEach("end of word 1", given, Checks.INDEX, wrongs, (braid, rope) -> braid.end(1, rope));
            }
        }
        BraidWords fewer = Given.empty(6).braid();
        fewer.setRopes(5);
        c.refused("end of a rope that hung once", Checks.INDEX, fewer, () -> fewer.end(0, 5));
    }

    static void promise13AThrowChangesNothing(Checks c) {
        c.throwAndStay(Given.full(4), b -> b.end(0, 4), b -> b.end(1, -1), b -> b.end(2, 0), b -> b.end(-1, 0));
    }

    // ---- promise 14

    static void promise14ReturnsTheSignsOfAllLettersByWhichTheseTwoCross(Checks c) {
        crosses(c, 3, NONE, 0, 1, 0);
        crosses(c, 6, NONE, 0, 5, 0);
        crosses(c, 3, Checks.word(1), 0, 1, 1);
        crosses(c, 3, Checks.word(-1), 0, 1, -1);
        crosses(c, 3, Checks.word(1), 1, 2, 0);
        crosses(c, 6, Checks.word(5), 4, 5, 1);
        crosses(c, 6, Checks.word(-5), 4, 5, -1);
        crosses(c, 6, Checks.repeated(30, 5), 4, 5, 30);
        crosses(c, 6, Checks.repeated(30, -5), 4, 5, -30);
        crosses(c, 6, Checks.repeated(30, 5), 0, 5, 0);
        crosses(c, 3, Checks.repeated(15, 2, -2), 1, 2, 0);
        // Of three, each two cross ten times in 30 letters.
        crosses(c, 3, Checks.repeated(15, 1, 2), 0, 1, 10);
        crosses(c, 3, Checks.repeated(15, 1, 2), 0, 2, 10);
        crosses(c, 3, Checks.repeated(15, 1, 2), 1, 2, 10);
    }

    private static void crosses(Checks c, int ropes, List<Integer> word, int a, int b, int due) {
        for (List<Integer> others : List.of(NONE, Given.row(ropes, 29))) {
            Given given0 = new Given(ropes, word, others);
            Given given1 = new Given(ropes, others, word);
            c.tells("crosses(0, " + a + ", " + b + ")", given0, braid -> braid.crosses(0, a, b), due);
            c.tells("crosses(1, " + a + ", " + b + ")", given1, braid -> braid.crosses(1, a, b), due);
            c.tells("crosses(0, " + b + ", " + a + ")", given0, braid -> braid.crosses(0, b, a), due);
            c.tells("crosses(1, " + b + ", " + a + ")", given1, braid -> braid.crosses(1, b, a), due);
        }
    }

    static void promise14WhicheverHangsOnTheLeftThen(Checks c) {
        // They cross twice, once with each of them on the left.
        crosses(c, 3, Checks.word(1, 1), 0, 1, 2);
        crosses(c, 3, Checks.word(-1, -1), 0, 1, -2);
        crosses(c, 3, Checks.word(1, -1), 0, 1, 0);
        crosses(c, 6, Checks.word(5, 5, 5), 4, 5, 3);
        // The first rope goes over all others, and lies on their right then.
        crosses(c, 4, Checks.word(1, 2, 3, -3), 0, 3, 0);
        crosses(c, 4, Checks.word(1, 2, 3, 3), 0, 3, 2);
    }

    static void promise14ThrowsIndexOutOfBoundsIfWordIsNot0To1(Checks c) {
        for (int many : new int[] {0, 30}) {
            Given given = Given.lengths(3, many, many);
            c.refusesEach("crosses", given, Checks.INDEX, Wrong.WORDS, (braid, w) -> braid.crosses(w, 0, 1));
        }
    }

    static void promise14ThrowsIndexOutOfBoundsIfThereIsNoSuchRope(Checks c) {
        for (int ropes = 3; ropes <= 6; ropes++) {
            for (int many : new int[] {0, 30}) {
                Given given = Given.lengths(ropes, many, many);
                int last = ropes - 1;
                int[] wrongs = Wrong.numbers(ropes);
                c.refusesEach("crosses a", given, Checks.INDEX, wrongs, (braid, rope) -> braid.crosses(0, rope, 0));
                c.refusesEach("crosses a", given, Checks.INDEX, wrongs, (braid, rope) -> braid.crosses(1, rope, last));
                c.refusesEach("crosses b", given, Checks.INDEX, wrongs, (braid, rope) -> braid.crosses(0, last, rope));
                c.refusesEach("crosses b", given, Checks.INDEX, wrongs, (braid, rope) -> braid.crosses(1, 0, rope));
                c.refuses("crosses of no two", given, Checks.INDEX, braid -> braid.crosses(0, -1, last + 1));
            }
        }
    }

    static void promise14ThrowsIllegalArgumentIfBothAreTheSame(Checks c) {
        for (int ropes = 3; ropes <= 6; ropes++) {
            for (int rope = 0; rope < ropes; rope++) {
                int same = rope;
                c.refuses("crosses", Given.empty(ropes), Checks.ARGUMENT, braid -> braid.crosses(0, same, same));
                c.refuses("crosses", Given.full(ropes), Checks.ARGUMENT, braid -> braid.crosses(1, same, same));
            }
        }
    }

    static void promise14OfSeveralTheFirstIsThrown(Checks c) {
        for (int ropes = 3; ropes <= 6; ropes++) {
            Given given = Given.full(ropes);
            c.refusesEach("word and same", given, Checks.INDEX, Wrong.WORDS, (braid, w) -> braid.crosses(w, 0, 0));
            c.refusesEach("word and rope", given, Checks.INDEX, Wrong.WORDS, (braid, w) -> braid.crosses(w, -1, 0));
            c.refusesEach("rope and same", given, Checks.INDEX, Wrong.numbers(ropes), (b, rope) -> b.crosses(0, rope, rope));
            c.refusesEach("all three", given, Checks.INDEX, Wrong.numbers(ropes), (b, rope) -> b.crosses(2, rope, rope));
        }
    }

    static void promise14AThrowChangesNothing(Checks c) {
        c.throwAndStay(Given.full(4), b -> b.crosses(0, 1, 1), b -> b.crosses(1, 4, 0), b -> b.crosses(1, 0, 4),
                b -> b.crosses(0, -1, 2), b -> b.crosses(2, 0, 1), b -> b.crosses(-1, 0, 0));
    }

    // ---- promise 15

    static void promise15TellsThePlacesOfItsFirstLetterAndItsLastOne(Checks c) {
        handle(c, 6, Checks.word(1, -1), 0, 1, -2);
        handle(c, 6, Checks.word(-5, 5), 0, 1, -2);
        handle(c, 6, behind(Checks.repeated(28, 3), Checks.word(5, -5)), 28, 29, -2);
        handle(c, 6, behind(Checks.word(5), behind(Checks.repeated(28, 3), Checks.word(-5))), 0, 29, -2);
        handle(c, 6, behind(Checks.word(4), behind(Checks.repeated(28, 2), Checks.word(-4))), 0, 29, -2);
        // No letter of the same height, or of the one below, may stand between: but any other may.
        handle(c, 4, Checks.word(2, 2, -2), 1, 2, -2);
        handle(c, 4, Checks.word(3, 2, -3, 3), 2, 3, -2);
        handle(c, 4, Checks.word(3, -1, 1, -3), 1, 2, -2);
        handle(c, 4, Checks.word(3, -1, -3), 0, 2, -2);
    }

    static void promise15TellsHowManyLettersThereWouldBeMore(Checks c) {
        handle(c, 3, Checks.word(2, -2), 0, 1, -2);
        handle(c, 3, Checks.word(1, 2, -1), 0, 2, 0);
        handle(c, 3, Checks.word(1, -2, -2, -1), 0, 3, 2);
        handle(c, 3, behind(Checks.word(-1), behind(Checks.repeated(28, 2), Checks.word(1))), 0, 29, 54);
        handle(c, 4, behind(Checks.word(-1), behind(Checks.repeated(28, 3), Checks.word(1))), 0, 29, -2);
        handle(c, 4, behind(Checks.word(1), behind(Checks.repeated(14, 2, 3), Checks.word(-1))), 0, 29, 26);
        // Letters 2 ahead of the handle and behind it are not counted.
        handle(c, 3, Checks.word(2, 2, 1, 2, -1, 2, 2), 2, 4, 0);
    }

    static void promise15TellsThatThereIsNone(Checks c) {
        for (List<Integer> word : List.of(NONE, Checks.word(1), Checks.word(-5), Checks.word(1, 2), Checks.word(2, 1, -2),
                Checks.word(5, -4, -5), Checks.repeated(30, -1), Checks.repeated(15, 5, 4))) {
            handle(c, 6, word, -1, -1, 0);
        }
    }

    private static List<Integer> behind(List<Integer> one, List<Integer> other) {
        return BraidModel.oneBehindTheOther(one, other);
    }

    private static void handle(Checks c, int ropes, List<Integer> word, int first, int last, int more) {
        int[] due = {first, last, more};
        for (List<Integer> others : List.of(NONE, Given.row(ropes, 30), Checks.word(2, -2))) {
            for (int what = 0; what <= 2; what++) {
                int w = what;
                c.tells("handle(0, " + w + ")", new Given(ropes, word, others), braid -> braid.handle(0, w), due[w]);
                c.tells("handle(1, " + w + ")", new Given(ropes, others, word), braid -> braid.handle(1, w), due[w]);
            }
        }
    }

    static void promise15ThrowsIndexOutOfBoundsIfWordIsNot0To1(Checks c) {
        for (Given given : List.of(Given.empty(3), Given.full(3), new Given(3, Checks.word(1, -1), Checks.word(2, -2)))) {
            c.refusesEach("handle", given, Checks.INDEX, Wrong.WORDS, (braid, w) -> braid.handle(w, 0));
            c.refusesEach("handle", given, Checks.INDEX, Wrong.WORDS, (braid, w) -> braid.handle(w, 3));
        }
    }

    static void promise15ThrowsIndexOutOfBoundsIfWhatIsNot0To2(Checks c) {
        for (Given given : List.of(Given.empty(3), Given.full(3), new Given(3, Checks.word(1, -1), Checks.word(2, -2)))) {
            c.refusesEach("handle of 0", given, Checks.INDEX, Wrong.numbers(3), (braid, what) -> braid.handle(0, what));
            c.refusesEach("handle of 1", given, Checks.INDEX, Wrong.numbers(3), (braid, what) -> braid.handle(1, what));
        }
    }

    static void promise15AThrowChangesNothing(Checks c) {
        Given given = new Given(4, Checks.word(1, 2, -1), Given.row(4, 30));
        c.throwAndStay(given, b -> b.handle(0, 3), b -> b.handle(1, -1), b -> b.handle(2, 0), b -> b.handle(-1, 0));
    }
}
