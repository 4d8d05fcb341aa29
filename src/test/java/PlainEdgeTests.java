import java.math.BigInteger;
import java.util.ArrayList;
import java.util.List;

/** Each sentence of the promises 16 to 21 that names a boundary case. */
final class PlainEdgeTests {
    private static final List<Integer> NONE = List.of();
    private static final BigInteger TWO_TO_64 = BigInteger.ONE.shiftLeft(64);

    private PlainEdgeTests() { }

    static void addTo(Tests tests) {
        tests.add("promise 16: 0 its letters, 1 the cuts that it takes", PlainEdgeTests::promise16TellsItsLettersAndItsCuts);
        tests.add("promise 16: 2 its sign, 3 its least height, 0 if it is empty",
                PlainEdgeTests::promise16TellsItsSignAndItsLeastHeight);
        tests.add("promise 16: -9 for each of these, if it is lost: a handle still behind 100 cuts",
                PlainEdgeTests::promise16TellsThatItIsLostByItsCuts);
        tests.add("promise 16: -9 for each of these, if it is lost: more than 100 letters behind some cut",
                PlainEdgeTests::promise16TellsThatItIsLostByItsLetters);
        tests.add("promise 16: Returns this (nothing is changed)", PlainEdgeTests::promise16NothingIsChanged);
        tests.add("promise 16: Throws IndexOutOfBoundsException if word is not 0 to 1",
                PlainEdgeTests::promise16ThrowsIndexOutOfBoundsIfWordIsNot0To1);
        tests.add("promise 16: Throws IndexOutOfBoundsException if what is not 0 to 3",
                PlainEdgeTests::promise16ThrowsIndexOutOfBoundsIfWhatIsNot0To3);
        tests.add("promise 16: A method that throws an exception changes nothing",
                PlainEdgeTests::promise16AThrowChangesNothing);
        tests.add("promise 17: Returns 1 if both words are the same braid", PlainEdgeTests::promise17Returns1IfBothAreTheSameBraid);
        tests.add("promise 17: Returns 0 if not", PlainEdgeTests::promise17Returns0IfNot);
        tests.add("promise 17: Returns -9 if what tells it is lost: a handle still behind 100 cuts",
                PlainEdgeTests::promise17ReturnsMinus9IfLostByCuts);
        tests.add("promise 17: Returns -9 if what tells it is lost: more than 100 letters behind some cut",
                PlainEdgeTests::promise17ReturnsMinus9IfLostByLetters);
        tests.add("promise 18: 1 if the word 0 stands ahead of the other one, -1 if behind",
                PlainEdgeTests::promise18Returns1IfAheadAndMinus1IfBehind);
        tests.add("promise 18: 0 if both are the same braid", PlainEdgeTests::promise18Returns0IfBothAreTheSameBraid);
        tests.add("promise 18: -9 if it is lost: a handle still behind 100 cuts",
                PlainEdgeTests::promise18ReturnsMinus9IfLostByCuts);
        tests.add("promise 18: -9 if it is lost: more than 100 letters behind some cut",
                PlainEdgeTests::promise18ReturnsMinus9IfLostByLetters);
        tests.add("promise 18: the word 0 turned round, with the word 1 behind it",
                PlainEdgeTests::promise18TurnsTheWord0Round);
        tests.add("promise 19: added to the end of a word as it is (also of one with 30)",
                PlainEdgeTests::promise19AdvisesAlsoOfOneWith30);
        tests.add("promise 19: so that the plain form of it has the fewest letters",
                PlainEdgeTests::promise19AdvisesTheLetterWithTheFewestLetters);
        tests.add("promise 19: of several the one with the least height, of both signs the one greater than 0",
                PlainEdgeTests::promise19OfSeveralAdvisesTheOneWithTheLeastHeight);
        tests.add("promise 19: 0, if by none it has fewer than without", PlainEdgeTests::promise19Returns0IfByNoneItHasFewer);
        tests.add("promise 19: lost ones are none: a handle still behind 100 cuts",
                PlainEdgeTests::promise19LostByCutsIsNone);
        tests.add("promise 19: lost ones are none: more than 100 letters behind some cut",
                PlainEdgeTests::promise19LostByLettersIsNone);
        tests.add("promise 19: lost ones are none; nothing is changed", PlainEdgeTests::promise19NothingIsChanged);
        tests.add("promise 19: Throws IndexOutOfBoundsException if word is not 0 to 1",
                PlainEdgeTests::promise19ThrowsIndexOutOfBoundsIfWordIsNot0To1);
        tests.add("promise 19: Throws IllegalStateException if it is lost itself",
                PlainEdgeTests::promise19ThrowsIllegalStateIfItIsLostItself);
        tests.add("promise 19: If several exceptions apply, the one that is named first is thrown",
                PlainEdgeTests::promise19OfSeveralTheFirstIsThrown);
        tests.add("promise 19: A method that throws an exception changes nothing",
                PlainEdgeTests::promise19AThrowChangesNothing);
        tests.add("promise 20: Returns the mean height of all letters of both words",
                PlainEdgeTests::promise20ReturnsTheMeanHeightOfBothWords);
        tests.add("promise 20: 0 without any", PlainEdgeTests::promise20Returns0WithoutAny);
        tests.add("promise 21: A number d starts with 1511; for each of the following numbers x, d becomes d * 31 + x:"
                + " what count() tells, in its order; for each word its letters, the ends of all ropes, what handle() tells,"
                + " what plain() tells; what same() and what ahead() tell", PlainEdgeTests::promise21DigestsTheNumbersInTheirOrder);
        tests.add("promise 21: which wraps around as a 64-bit integer", PlainEdgeTests::promise21WrapsAroundAsA64BitInteger);
        tests.add("promise 21: what plain(), same() and ahead() tell if they are lost",
                PlainEdgeTests::promise21DigestsWhatIsLost);
    }

    // ---- words at the edges

    private static Course provenCuts(Checks c, List<Integer> word, int cuts) {
        Course course = Course.of(word);
        c.due("cuts of " + word, course.cuts(), cuts);
        c.due("never over 100 letters of " + word, course.mostLetters() <= 100, true);
        return course;
    }

    private static Course provenLetters(Checks c, List<Integer> word, int most) {
        Course course = Course.of(word);
        c.due("most letters of " + word, course.mostLetters(), most);
        c.due("never over 100 cuts of " + word, course.cuts() <= 100, true);
        return course;
    }

    /** Two words of which the first one turned round, and the other one behind it, are this word. */
    private static Given split(int ropes, List<Integer> word, int at) {
        return new Given(ropes, BraidModel.turnedRound(word.subList(0, at)), word.subList(at, word.size()));
    }

    // ---- promise 16

    private static void plain(Checks c, int ropes, List<Integer> word, int... due) {
        for (List<Integer> others : List.of(NONE, Given.row(ropes, 30), Checks.word(1, -1))) {
            for (int what = 0; what <= 3; what++) {
                int w = what;
                c.tells("plain(0, " + w + ")", new Given(ropes, word, others), braid -> braid.plain(0, w), due[w]);
                c.tells("plain(1, " + w + ")", new Given(ropes, others, word), braid -> braid.plain(1, w), due[w]);
            }
        }
    }

    private static void plainAsCourse(Checks c, int ropes, List<Integer> word, Course course) {
        int height = course.plain().stream().mapToInt(Math::abs).min().orElse(0);
        plain(c, ropes, word, course.plain().size(), course.cuts(), course.sign(), height);
    }

    static void promise16TellsItsLettersAndItsCuts(Checks c) {
        plain(c, 3, NONE, 0, 0, 0, 0);
        plain(c, 3, Checks.word(2), 1, 0, 1, 2);
        plain(c, 3, Checks.word(2, 1, -2), 3, 0, 1, 1);
        plain(c, 3, Checks.word(2, -2), 0, 1, 0, 0);
        plain(c, 3, Checks.word(1, 2, -1), 3, 1, 1, 1);
        plain(c, 6, Checks.repeated(30, -5), 30, 0, -1, 5);
        plain(c, 6, Checks.repeated(15, 5, -5), 0, 15, 0, 0);
    }

    static void promise16TellsItsSignAndItsLeastHeight(Checks c) {
        for (int ropes = 3; ropes <= 6; ropes++) {
            int top = ropes - 1;
            plain(c, ropes, NONE, 0, 0, 0, 0);
            plain(c, ropes, Checks.word(top, -top), 0, 1, 0, 0);
            plain(c, ropes, Checks.word(1), 1, 0, 1, 1);
            plain(c, ropes, Checks.word(-1), 1, 0, -1, 1);
            plain(c, ropes, Checks.word(top), 1, 0, 1, top);
            plain(c, ropes, Checks.word(-top), 1, 0, -1, top);
            // The least height is neither that of the first letter nor that of the last one.
            plain(c, ropes, Checks.word(top, top - 1, -top), 3, 0, 1, top - 1);
            plain(c, ropes, Checks.word(top, 1 - top, top), 3, 0, -1, top - 1);
        }
    }

    static void promise16TellsThatItIsLostByItsCuts(Checks c) {
        for (int ropes = 3; ropes <= 6; ropes++) {
            List<Integer> just = EdgeWords.CUTS_100.get(ropes - 3);
            plainAsCourse(c, ropes, just, provenCuts(c, just, 100));
            List<Integer> lost = EdgeWords.CUTS_101.get(ropes - 3);
            provenCuts(c, lost, 101);
            plain(c, ropes, lost, -9, -9, -9, -9);
        }
    }

    static void promise16TellsThatItIsLostByItsLetters(Checks c) {
        plainAsCourse(c, 6, EdgeWords.PLAIN_LETTERS_100, provenLetters(c, EdgeWords.PLAIN_LETTERS_100, 100));
        provenLetters(c, EdgeWords.PLAIN_LETTERS_101, 101);
        plain(c, 6, EdgeWords.PLAIN_LETTERS_101, -9, -9, -9, -9);
        provenLetters(c, EdgeWords.PLAIN_LETTERS_102, 102);
        plain(c, 6, EdgeWords.PLAIN_LETTERS_102, -9, -9, -9, -9);
    }

    private static List<Given> emptyFullAndLost() {
        List<Integer> lost = EdgeWords.CUTS_101.get(0);
        return List.of(Given.empty(3), Given.full(3), new Given(3, lost, lost));
    }

    static void promise16NothingIsChanged(Checks c) {
        for (Given given : emptyFullAndLost()) {
            BraidWords braid = given.braid();
            for (int what = 0; what <= 3; what++) {
                for (int word = 0; word <= 1; word++) {
                    c.due("plain", braid.plain(word, what), given.braid().plain(word, what));
                    tellsAsOneNeverAsked(c, "plain", braid, given);
                }
            }
            c.stands("behind plain on " + given, braid, given);
        }
    }

    /** What a word made in thought leaves behind is seen by no call. */
    private static void tellsAsOneNeverAsked(Checks c, String behind, BraidWords braid, Given given) {
        c.due("same() behind " + behind + " on " + given, braid.same(), given.braid().same());
        c.due("ahead() behind " + behind + " on " + given, braid.ahead(), given.braid().ahead());
        c.due("handle(0, 2) behind " + behind + " on " + given, braid.handle(0, 2), given.braid().handle(0, 2));
        c.due("end(1, 2) behind " + behind + " on " + given, braid.end(1, 2), given.braid().end(1, 2));
    }

    static void promise16ThrowsIndexOutOfBoundsIfWordIsNot0To1(Checks c) {
        for (Given given : emptyFullAndLost()) {
            c.refusesEach("plain", given, Checks.INDEX, Wrong.WORDS, (braid, w) -> braid.plain(w, 0));
            c.refusesEach("plain", given, Checks.INDEX, Wrong.WORDS, (braid, w) -> braid.plain(w, 4));
        }
    }

    static void promise16ThrowsIndexOutOfBoundsIfWhatIsNot0To3(Checks c) {
        for (Given given : emptyFullAndLost()) {
            c.refusesEach("plain of 0", given, Checks.INDEX, Wrong.numbers(4), (braid, what) -> braid.plain(0, what));
            c.refusesEach("plain of 1", given, Checks.INDEX, Wrong.numbers(4), (braid, what) -> braid.plain(1, what));
        }
    }

    static void promise16AThrowChangesNothing(Checks c) {
        for (Given given : emptyFullAndLost()) {
            c.throwAndStay(given, b -> b.plain(0, 4), b -> b.plain(1, -1), b -> b.plain(2, 0), b -> b.plain(-1, 0));
        }
    }

    // ---- promises 17 and 18

    private static void same(Checks c, Given given, int due) {
        c.tells("same()", given, BraidWords::same, due);
    }

    private static void ahead(Checks c, Given given, int due) {
        c.tells("ahead()", given, BraidWords::ahead, due);
    }

    private static List<Given> sameBraids() {
        List<Given> same = new ArrayList<>();
        for (int ropes = 3; ropes <= 6; ropes++) {
            same.add(Given.empty(ropes));
            same.add(new Given(ropes, NONE, Checks.word(ropes - 1, 1 - ropes)));
            same.add(new Given(ropes, Checks.word(1, -1), NONE));
            same.add(new Given(ropes, NONE, Checks.repeated(15, 1, -1)));
            same.add(new Given(ropes, Checks.repeated(30, ropes - 1), Checks.repeated(30, ropes - 1)));
            same.add(split(ropes, EdgeWords.EMPTY_CUTS_100.get(ropes - 3), 30));
            same.add(split(ropes, EdgeWords.EMPTY_LETTERS_100.get(ropes - 3), 30));
        }
        return same;
    }

    static void promise17Returns1IfBothAreTheSameBraid(Checks c) {
        for (int at = 0; at < 4; at++) {
            c.due("plain form", provenCuts(c, EdgeWords.EMPTY_CUTS_100.get(at), 100).plain(), NONE);
            c.due("plain form", provenLetters(c, EdgeWords.EMPTY_LETTERS_100.get(at), 100).plain(), NONE);
        }
        for (Given given : sameBraids()) {
            same(c, given, 1);
        }
    }

    static void promise17Returns0IfNot(Checks c) {
        for (int ropes = 3; ropes <= 6; ropes++) {
            same(c, new Given(ropes, Checks.word(1), NONE), 0);
            same(c, new Given(ropes, NONE, Checks.word(1 - ropes)), 0);
            same(c, new Given(ropes, Checks.word(1), Checks.word(-1)), 0);
            same(c, new Given(ropes, Checks.repeated(30, 1), Checks.repeated(29, 1)), 0);
            same(c, new Given(ropes, Checks.repeated(30, 2), Checks.repeated(30, -2)), 0);
            List<Integer> cuts = EdgeWords.CUTS_100.get(ropes - 3);
            c.due("is empty", provenCuts(c, cuts, 100).plain().isEmpty(), false);
            for (int at : new int[] {0, 15, 30}) {
                same(c, split(ropes, cuts, at), 0);
            }
            List<Integer> letters = EdgeWords.LETTERS_100.get(ropes - 3);
            c.due("is empty", provenLetters(c, letters, 100).plain().isEmpty(), false);
            same(c, split(ropes, letters, 30), 0);
        }
    }

    private static List<Given> lostByCuts(Checks c) {
        List<Given> lost = new ArrayList<>();
        for (int ropes = 3; ropes <= 6; ropes++) {
            provenCuts(c, EdgeWords.CUTS_101.get(ropes - 3), 101);
            for (int at : new int[] {0, 15, 30}) {
                lost.add(split(ropes, EdgeWords.CUTS_101.get(ropes - 3), at));
            }
            // The same braid, but by 101 cuts that can't be told.
            provenCuts(c, EdgeWords.EMPTY_CUTS_101.get(ropes - 3), 101);
            lost.add(split(ropes, EdgeWords.EMPTY_CUTS_101.get(ropes - 3), 30));
        }
        return lost;
    }

    private static List<Given> lostByLetters(Checks c) {
        List<Given> lost = new ArrayList<>();
        for (int ropes = 3; ropes <= 6; ropes++) {
            List<Integer> over = EdgeWords.LETTERS_OVER_100.get(ropes - 3);
            provenLetters(c, over, over.size() == 59 ? 101 : 102);
            lost.add(split(ropes, over, 30));
            provenLetters(c, EdgeWords.EMPTY_LETTERS_102.get(ropes - 3), 102);
            lost.add(split(ropes, EdgeWords.EMPTY_LETTERS_102.get(ropes - 3), 30));
        }
        return lost;
    }

    static void promise17ReturnsMinus9IfLostByCuts(Checks c) {
        for (Given given : lostByCuts(c)) {
            same(c, given, -9);
        }
    }

    static void promise17ReturnsMinus9IfLostByLetters(Checks c) {
        for (Given given : lostByLetters(c)) {
            same(c, given, -9);
        }
    }

    static void promise18Returns1IfAheadAndMinus1IfBehind(Checks c) {
        for (int ropes = 3; ropes <= 6; ropes++) {
            ahead(c, new Given(ropes, NONE, Checks.word(1)), 1);
            ahead(c, new Given(ropes, Checks.word(1), NONE), -1);
            ahead(c, new Given(ropes, Checks.word(1 - ropes), NONE), 1);
            ahead(c, new Given(ropes, NONE, Checks.word(1 - ropes)), -1);
            ahead(c, new Given(ropes, Checks.repeated(29, 2), Checks.repeated(30, 2)), 1);
            ahead(c, new Given(ropes, Checks.repeated(30, 2), Checks.repeated(30, -2)), -1);
            List<Integer> cuts = EdgeWords.CUTS_100.get(ropes - 3);
            for (int at : new int[] {0, 15, 30}) {
                ahead(c, split(ropes, cuts, at), provenCuts(c, cuts, 100).sign());
            }
            List<Integer> letters = EdgeWords.LETTERS_100.get(ropes - 3);
            ahead(c, split(ropes, letters, 30), provenLetters(c, letters, 100).sign());
        }
    }

    static void promise18Returns0IfBothAreTheSameBraid(Checks c) {
        for (Given given : sameBraids()) {
            ahead(c, given, 0);
        }
    }

    static void promise18ReturnsMinus9IfLostByCuts(Checks c) {
        for (Given given : lostByCuts(c)) {
            ahead(c, given, -9);
        }
    }

    static void promise18ReturnsMinus9IfLostByLetters(Checks c) {
        for (Given given : lostByLetters(c)) {
            ahead(c, given, -9);
        }
    }

    static void promise18TurnsTheWord0Round(Checks c) {
        for (int ropes = 4; ropes <= 6; ropes++) {
            List<Integer> lost = EdgeWords.EMPTY_CUTS_101.get(ropes - 3);
            c.due("is lost", Course.of(lost).isLost(), true);
            c.due("is lost turned round", Course.of(BraidModel.turnedRound(lost)).isLost(), false);
            Given given = split(ropes, lost, 30);
            ahead(c, given, -9);
            ahead(c, new Given(ropes, given.word1(), given.word0()), 0);
        }
    }

    // ---- promise 19

    private static void advise(Checks c, int ropes, List<Integer> word, int due) {
        for (List<Integer> others : List.of(NONE, Given.row(ropes, 30))) {
            c.tells("advise(0)", new Given(ropes, word, others), braid -> braid.advise(0), due);
            c.tells("advise(1)", new Given(ropes, others, word), braid -> braid.advise(1), due);
        }
    }

    static void promise19AdvisesAlsoOfOneWith30(Checks c) {
        for (int ropes = 3; ropes <= 6; ropes++) {
            int top = ropes - 1;
            for (int many : new int[] {1, 29, 30}) {
                advise(c, ropes, Checks.repeated(many, 1), -1);
                advise(c, ropes, Checks.repeated(many, -1), 1);
                advise(c, ropes, Checks.repeated(many, top), -top);
                advise(c, ropes, Checks.repeated(many, -top), top);
            }
        }
    }

    static void promise19AdvisesTheLetterWithTheFewestLetters(Checks c) {
        // By a letter it has one fewer, by the due one it has more fewer.
        advise(c, 5, Checks.word(-3, -4, -3, -1, 4), 3);
        advise(c, 6, Checks.word(3, 4, 3, 1, -4), -3);
        everyShortWord(c, 3, NONE, 5);
        everyShortWord(c, 4, NONE, 3);
        everyShortWord(c, 6, NONE, 2);
    }

    /** Every word of at most so many letters, which begins so, held against the model. */
    private static void everyShortWord(Checks c, int ropes, List<Integer> word, int most) {
        Given given = new Given(ropes, word, NONE);
        c.due("advise(0) on " + given, given.braid().advise(0), given.model().advise(0));
        for (int letter = 1 - ropes; letter < ropes && word.size() < most; letter++) {
            if (letter != 0) {
                everyShortWord(c, ropes, BraidModel.oneBehindTheOther(word, List.of(letter)), most);
            }
        }
    }

    static void promise19OfSeveralAdvisesTheOneWithTheLeastHeight(Checks c) {
        advise(c, 4, Checks.word(1, 3), -1);
        advise(c, 4, Checks.word(3, 1), -1);
        advise(c, 4, Checks.word(-1, 3), 1);
        advise(c, 4, Checks.word(3, -1), 1);
        advise(c, 6, Checks.word(5, -3, 1), -1);
        advise(c, 6, Checks.word(5, -3), 3);
        advise(c, 6, Checks.repeated(10, 5, 1, 3), -1);
    }

    static void promise19Returns0IfByNoneItHasFewer(Checks c) {
        for (int ropes = 3; ropes <= 6; ropes++) {
            advise(c, ropes, NONE, 0);
            advise(c, ropes, Checks.word(1, -1), 0);
            advise(c, ropes, Checks.repeated(15, ropes - 1, 1 - ropes), 0);
        }
        // The last letter turned round always makes a plain form shorter, but for one that is empty, or takes 100 cuts.
        for (int ropes = 3; ropes <= 6; ropes++) {
            List<Integer> word = EdgeWords.CUTS_100.get(ropes - 3);
            provenCuts(c, word, 100);
            advise(c, ropes, word, 0);
        }
        // -1 cuts a handle of 1 2 2 -1, but that has 4 letters in its plain form then, and without it has 3.
        plain(c, 3, Checks.word(1, 2, 2, -1), 4, 2, 1, 1);
        advise(c, 3, Checks.word(1, 2, 2), -2);
    }

    static void promise19LostByCutsIsNone(Checks c) {
        int[] due100 = {2, 2, -3, -4};
        int[] due101 = {-2, -3, -4, -5};
        int[] better = {1, 2, 3, -3};
        for (int at = 0; at < 4; at++) {
            List<Integer> word = EdgeWords.ADVISE_CUTS_100.get(at);
            provenCuts(c, behind(word, due100[at]), 100);
            advise(c, 3 + at, word, due100[at]);
            List<Integer> lost = EdgeWords.ADVISE_CUTS_101.get(at);
            Course withBetter = provenCuts(c, behind(lost, better[at]), 101);
            int letters = Course.of(behind(lost, due101[at])).plain().size();
            c.due("is better", withBetter.plain().size() <= letters, true);
            advise(c, 3 + at, lost, due101[at]);
        }
    }

    static void promise19LostByLettersIsNone(Checks c) {
        int[] due101 = {2, -2};
        int[] better = {-1, 1};
        for (int at = 0; at < 2; at++) {
            List<Integer> word = EdgeWords.ADVISE_LETTERS_99.get(at);
            provenLetters(c, behind(word, -1), 99);
            advise(c, 5 + at, word, -1);
            List<Integer> lost = EdgeWords.ADVISE_LETTERS_101.get(at);
            Course withBetter = provenLetters(c, behind(lost, better[at]), 101);
            int letters = Course.of(behind(lost, due101[at])).plain().size();
            c.due("is better", withBetter.plain().size() <= letters, true);
            advise(c, 5 + at, lost, due101[at]);
        }
    }

    private static List<Integer> behind(List<Integer> word, int letter) {
        return BraidModel.oneBehindTheOther(word, List.of(letter));
    }

    static void promise19NothingIsChanged(Checks c) {
        for (int ropes = 3; ropes <= 6; ropes++) {
            List<Integer> just = EdgeWords.ADVISE_CUTS_100.get(ropes - 3);
            List<Integer> lost = EdgeWords.ADVISE_CUTS_101.get(ropes - 3);
            for (Given given : List.of(Given.empty(ropes), new Given(ropes, just, lost), new Given(ropes, lost, just))) {
                BraidWords braid = given.braid();
                for (int word = 0; word <= 1; word++) {
                    c.due("advise", braid.advise(word), given.braid().advise(word));
                    tellsAsOneNeverAsked(c, "advise", braid, given);
                }
                c.stands("behind advise on " + given, braid, given);
            }
        }
    }

    static void promise19ThrowsIndexOutOfBoundsIfWordIsNot0To1(Checks c) {
        for (Given given : List.of(Given.empty(3), Given.full(3), Given.full(6))) {
            c.refusesEach("advise", given, Checks.INDEX, Wrong.WORDS, BraidWords::advise);
        }
    }

    static void promise19ThrowsIllegalStateIfItIsLostItself(Checks c) {
        for (int ropes = 3; ropes <= 6; ropes++) {
            lostItself(c, ropes, EdgeWords.CUTS_101.get(ropes - 3));
            c.due("at 100 cuts", Checks.braid(ropes, EdgeWords.CUTS_100.get(ropes - 3), NONE).advise(0), 0);
        }
        lostItself(c, 6, EdgeWords.PLAIN_LETTERS_101);
        lostItself(c, 6, EdgeWords.PLAIN_LETTERS_102);
        Given just = new Given(6, EdgeWords.PLAIN_LETTERS_100, NONE);
        c.due("at 100 letters", just.braid().advise(0), just.model().advise(0));
    }

    private static void lostItself(Checks c, int ropes, List<Integer> lost) {
        c.due("is lost", Course.of(lost).isLost(), true);
        for (List<Integer> others : List.of(NONE, Checks.word(1))) {
            c.refuses("advise(0)", new Given(ropes, lost, others), Checks.STATE, braid -> braid.advise(0));
            c.refuses("advise(1)", new Given(ropes, others, lost), Checks.STATE, braid -> braid.advise(1));
            c.due("advise of the other one", Checks.braid(ropes, lost, others).advise(1), others.isEmpty() ? 0 : -1);
        }
    }

    private static Given bothLost(int ropes) {
        return new Given(ropes, EdgeWords.CUTS_101.get(ropes - 3), EdgeWords.CUTS_101.get(ropes - 3));
    }

    static void promise19OfSeveralTheFirstIsThrown(Checks c) {
        for (int ropes = 3; ropes <= 6; ropes++) {
            c.refusesEach("advise", bothLost(ropes), Checks.INDEX, Wrong.WORDS, BraidWords::advise);
        }
    }

    static void promise19AThrowChangesNothing(Checks c) {
        for (int ropes = 3; ropes <= 6; ropes++) {
            c.throwAndStay(bothLost(ropes), b -> b.advise(0), b -> b.advise(1), b -> b.advise(2), b -> b.advise(-1));
        }
    }

    // ---- promise 20

    static void promise20ReturnsTheMeanHeightOfBothWords(Checks c) {
        mean(c, 3, Checks.word(-2), NONE, 2.0);
        mean(c, 6, Checks.word(-5), Checks.word(4), 4.5);
        mean(c, 3, Checks.word(1, -1), Checks.word(-2), 4.0 / 3.0);
        mean(c, 6, Checks.repeated(30, -5), NONE, 5.0);
        mean(c, 6, Checks.repeated(30, 5), Checks.repeated(30, -5), 5.0);
        mean(c, 6, Checks.repeated(30, 5), Checks.repeated(29, 1), 179.0 / 59.0);
    }

    private static void mean(Checks c, int ropes, List<Integer> one, List<Integer> other, double due) {
        c.tells("mean()", new Given(ropes, one, other), BraidWords::mean, due);
        c.tells("mean()", new Given(ropes, other, one), BraidWords::mean, due);
    }

    static void promise20Returns0WithoutAny(Checks c) {
        c.due("mean() of a new one", new BraidWords().mean(), 0.0);
        for (int ropes = 3; ropes <= 6; ropes++) {
            mean(c, ropes, NONE, NONE, 0.0);
            BraidWords cleared = Given.full(ropes).braid();
            cleared.setRopes(ropes);
            c.due("mean() behind setRopes", cleared.mean(), 0.0);
            BraidWords takenOff = Checks.braid(ropes, Checks.word(-2), NONE);
            takenOff.untwist(0);
            c.due("mean() behind untwist", takenOff.mean(), 0.0);
        }
    }

    // ---- promise 21

    /** All numbers that digest() goes through, by the other calls, each on a new object. */
    private static List<Integer> told(Given given) {
        List<Integer> told = new ArrayList<>();
        for (int what = 0; what <= 4; what++) {
            told.add(given.braid().count(what));
        }
        for (int word = 0; word <= 1; word++) {
            told.addAll(given.word(word));
            for (int rope = 0; rope < given.ropes(); rope++) {
                told.add(given.braid().end(word, rope));
            }
            for (int what = 0; what <= 2; what++) {
                told.add(given.braid().handle(word, what));
            }
            for (int what = 0; what <= 3; what++) {
                told.add(given.braid().plain(word, what));
            }
        }
        told.add(given.braid().same());
        told.add(given.braid().ahead());
        return told;
    }

    private static BigInteger withoutWrapping(List<Integer> told) {
        BigInteger d = BigInteger.valueOf(1511);
        for (int x : told) {
            d = d.multiply(BigInteger.valueOf(31)).add(BigInteger.valueOf(x));
        }
        return d;
    }

    private static long wrapped(BigInteger exact) {
        BigInteger rest = exact.mod(TWO_TO_64);
        return (rest.testBit(63) ? rest.subtract(TWO_TO_64) : rest).longValueExact();
    }

    static void promise21DigestsTheNumbersInTheirOrder(Checks c) {
        List<Given> givens = new ArrayList<>();
        for (int ropes = 3; ropes <= 6; ropes++) {
            givens.add(Given.empty(ropes));
            givens.add(Given.full(ropes));
            givens.add(Given.lengths(ropes, 1, 0));
            givens.add(Given.lengths(ropes, 0, 30));
            givens.add(new Given(ropes, Checks.word(1, -1), Checks.word(1, 2, -1)));
        }
        for (Given given : givens) {
            c.tells("digest()", given, BraidWords::digest, wrapped(withoutWrapping(told(given))));
        }
    }

    static void promise21WrapsAroundAsA64BitInteger(Checks c) {
        int below0 = 0;
        int above0 = 0;
        for (int ropes = 3; ropes <= 6; ropes++) {
            for (int many : new int[] {0, 1, 2, 29, 30}) {
                Given given = Given.lengths(ropes, many, 30 - many);
                BigInteger exact = withoutWrapping(told(given));
                c.due("goes beyond 64 bits", exact.bitLength() > 64, true);
                long due = wrapped(exact);
                c.tells("digest()", given, BraidWords::digest, due);
                below0 += due < 0 ? 1 : 0;
                above0 += due > 0 ? 1 : 0;
            }
        }
        c.due("some wrap around to below 0, and some to above", below0 > 0 && above0 > 0, true);
    }

    static void promise21DigestsWhatIsLost(Checks c) {
        List<Given> lost = new ArrayList<>(lostByCuts(c));
        lost.addAll(lostByLetters(c));
        for (int ropes = 3; ropes <= 6; ropes++) {
            lost.add(bothLost(ropes));
            lost.add(new Given(ropes, EdgeWords.CUTS_100.get(ropes - 3), EdgeWords.CUTS_101.get(ropes - 3)));
        }
        lost.add(new Given(6, EdgeWords.PLAIN_LETTERS_101, EdgeWords.PLAIN_LETTERS_102));
        for (Given given : lost) {
            List<Integer> told = told(given);
            c.due("something is lost on " + given, told.contains(-9), true);
            c.tells("digest()", given, BraidWords::digest, wrapped(withoutWrapping(told)));
        }
    }
}
