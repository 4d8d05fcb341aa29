import java.util.ArrayList;
import java.util.List;

/** Each sentence under "Terms" that says what the words of the promises mean, seen by the calls. */
final class TermsTests {
    private static final List<Integer> NONE = List.of();

    private TermsTests() { }

    static void addTo(Tests tests) {
        tests.add("terms: There are 3 to 6 ropes (3, at first), numbered from 0; each at first at the place of its number",
                TermsTests::eachRopeIsAtFirstAtThePlaceOfItsNumber);
        tests.add("terms: There are two words, 0 and 1 (both empty, at first)", TermsTests::thereAreTwoWords);
        tests.add("terms: a word is a row of letters, at most 30, at places from 0 on", TermsTests::aWordHasAtMost30Letters);
        tests.add("terms: A letter is a number i of 1 to 1 less than the ropes, or i turned round, -i",
                TermsTests::aLetterIsANumberOrThisTurnedRound);
        tests.add("terms: it crosses the ropes that hang at the places i - 1 and i then, which change their places",
                TermsTests::aLetterCrossesTheRopesAtItsPlaces);
        tests.add("terms: with i the one from the left goes over, with -i under", TermsTests::aLetterHasASign);
        tests.add("terms: a handle's last letter is the first one turned round", TermsTests::theLastOneIsTheFirstOneTurnedRound);
        tests.add("terms: without any letter of the height i, or of the height i - 1, between them",
                TermsTests::betweenThemIsNoLetterOfTheHeightOrTheOneBelow);
        tests.add("terms: between them nothing can stand, too, or letters of any other heights and signs",
                TermsTests::betweenThemMayStandAnyOthers);
        tests.add("terms: The first handle of a word is that which ends first", TermsTests::theFirstHandleEndsFirst);
        tests.add("terms: of several that end there it is that which begins last (there is but one)",
                TermsTests::ofSeveralItBeginsLast);
        tests.add("terms: Cutting: the first letter and the last one are left out", TermsTests::cuttingLeavesOutTheEnds);
        tests.add("terms: Cutting: each letter y of the height i + 1 between them becomes three",
                TermsTests::cuttingMakesThreeOfEachAbove);
        tests.add("terms: Cutting: All others stay", TermsTests::cuttingLetsAllOthersStay);
        tests.add("terms: Plain form: as long as it has a handle, the first one is cut", TermsTests::plainFormIsWhatCutLeaves);
        tests.add("terms: If it has more than 100 letters behind some cut, it is lost: behind the first one",
                TermsTests::lostByItsFirstCut);
        tests.add("terms: If it has a handle still behind 100 cuts, it is lost", TermsTests::lostByItsCuts);
        tests.add("terms: this holds for words that are made in thought as well, also of more than 30 letters",
                TermsTests::wordsInThoughtHaveMoreThan30Letters);
        tests.add("terms: A word that is not empty in its plain form has letters of its least height with one sign alone",
                TermsTests::theSignIsThatOfTheLeastHeight);
        tests.add("terms: Two words are the same braid, if the one turned round, and the other one behind it,"
                + " has an empty plain form", TermsTests::sameIsAnEmptyPlainForm);
    }

    // ---- ropes and letters

    static void eachRopeIsAtFirstAtThePlaceOfItsNumber(Checks c) {
        c.due("the ropes of a new one", new BraidWords().count(0), 3);
        for (int ropes = 3; ropes <= 6; ropes++) {
            for (int word = 0; word <= 1; word++) {
                for (int rope = 0; rope < ropes; rope++) {
                    int w = word;
                    int r = rope;
                    c.tells("end(" + w + ", " + r + ")", Given.empty(ropes), braid -> braid.end(w, r), r);
                }
            }
        }
    }

    static void thereAreTwoWords(Checks c) {
        BraidWords braid = new BraidWords();
        c.due("letters of word 0 at first", braid.count(1), 0);
        c.due("letters of word 1 at first", braid.count(2), 0);
        braid.twist(1, -2);
        braid.twist(0, 1);
        braid.twist(0, 2);
        c.due("both", Checks.state(braid), Checks.word(3, 2, 1, 2, 1, -2));
        c.refusesEach("turn", Given.full(3), Checks.INDEX, Wrong.WORDS, BraidWords::turn);
    }

    static void aWordHasAtMost30Letters(Checks c) {
        List<Integer> grows = BraidModel.oneBehindTheOther(Checks.word(1, 2, 2, -1), Checks.repeated(25, 2));
        for (int word = 0; word <= 1; word++) {
            int w = word;
            Given full = Given.full(4);
            c.tells("letter at 0", full, braid -> braid.letter(w, 0), full.word(w).get(0));
            c.tells("letter at 29", full, braid -> braid.letter(w, 29), full.word(w).get(29));
            c.refuses("letter at 30", full, Checks.INDEX, braid -> braid.letter(w, 30));
            c.refuses("twist", full, Checks.STATE, braid -> braid.twist(w, 1));
            c.refuses("join", full, Checks.STATE, braid -> braid.join(w));
            c.refuses("insert", full, Checks.STATE, braid -> braid.insert(w, 30, 1));
            c.refuses("cut", Given.of(3, w, grows, NONE), Checks.STATE, braid -> braid.cut(w));
        }
    }

    static void aLetterIsANumberOrThisTurnedRound(Checks c) {
        for (int ropes = 3; ropes <= 6; ropes++) {
            for (int letter = -8; letter <= 8; letter++) {
                int l = letter;
                Given given = Given.empty(ropes);
                if (l != 0 && l > -ropes && l < ropes) {
                    c.makes("twist of " + l, given, braid -> braid.twist(0, l), 1, given.with(0, Checks.word(l)));
                    c.makes("insert of " + l, given, braid -> braid.insert(1, 0, l), 2, given.with(1, Checks.word(l, -l)));
                } else {
                    c.refuses("twist of " + l, given, Checks.ARGUMENT, braid -> braid.twist(0, l));
                    c.refuses("insert of " + l, given, Checks.ARGUMENT, braid -> braid.insert(1, 0, l));
                }
            }
        }
    }

    private static void ends(Checks c, int ropes, List<Integer> word, int... due) {
        for (int rope = 0; rope < ropes; rope++) {
            int r = rope;
            c.tells("end(0, " + r + ")", new Given(ropes, word, NONE), braid -> braid.end(0, r), due[r]);
            c.tells("end(1, " + r + ")", new Given(ropes, NONE, word), braid -> braid.end(1, r), due[r]);
        }
    }

    private static void crosses(Checks c, int ropes, List<Integer> word, int a, int b, int due) {
        c.tells("crosses(0, " + a + ", " + b + ")", new Given(ropes, word, NONE), braid -> braid.crosses(0, a, b), due);
        c.tells("crosses(1, " + b + ", " + a + ")", new Given(ropes, NONE, word), braid -> braid.crosses(1, b, a), due);
    }

    static void aLetterCrossesTheRopesAtItsPlaces(Checks c) {
        ends(c, 3, Checks.word(1), 1, 0, 2);
        ends(c, 3, Checks.word(-2), 0, 2, 1);
        ends(c, 6, Checks.word(5), 0, 1, 2, 3, 5, 4);
        // The ropes hang 1 2 0 then, so the last letter crosses 1 and 2, which hang at the places 0 and 1.
        ends(c, 3, Checks.word(1, 2), 2, 0, 1);
        ends(c, 3, Checks.word(1, 2, -1), 2, 1, 0);
        crosses(c, 3, Checks.word(1, 2), 0, 1, 1);
        crosses(c, 3, Checks.word(1, 2), 0, 2, 1);
        crosses(c, 3, Checks.word(1, 2), 1, 2, 0);
        crosses(c, 3, Checks.word(1, 2, -1), 1, 2, -1);
    }

    static void aLetterHasASign(Checks c) {
        for (int ropes = 3; ropes <= 6; ropes++) {
            for (int height = 1; height < ropes; height++) {
                int i = height;
                crosses(c, ropes, Checks.word(i), i - 1, i, 1);
                crosses(c, ropes, Checks.word(-i), i - 1, i, -1);
                c.tells("count(3)", new Given(ropes, Checks.word(i), NONE), braid -> braid.count(3), 1);
                c.tells("count(4)", new Given(ropes, NONE, Checks.word(-i)), braid -> braid.count(4), -1);
            }
        }
    }

    // ---- handles

    private static void handle(Checks c, List<Integer> word, int first, int last) {
        for (int at = 0; at <= 1; at++) {
            int w = at;
            Given given = Given.of(6, w, word, Checks.word(2, 3));
            c.tells("handle(" + w + ", 0)", given, braid -> braid.handle(w, 0), first);
            c.tells("handle(" + w + ", 1)", given, braid -> braid.handle(w, 1), last);
        }
    }

    private static List<Integer> letters(int highest) {
        List<Integer> letters = new ArrayList<>();
        for (int height = 1; height <= highest; height++) {
            letters.add(height);
            letters.add(-height);
        }
        return letters;
    }

    static void theLastOneIsTheFirstOneTurnedRound(Checks c) {
        for (int x : letters(5)) {
            for (int y : letters(5)) {
                boolean is = y == -x;
                handle(c, Checks.word(x, y), is ? 0 : -1, is ? 1 : -1);
            }
        }
    }

    static void betweenThemIsNoLetterOfTheHeightOrTheOneBelow(Checks c) {
        for (int x : letters(5)) {
            int below = Math.abs(x) - 1;
            if (below > 0) {
                handle(c, Checks.word(x, below, -x), -1, -1);
                handle(c, Checks.word(x, -below, -x), -1, -1);
            }
            handle(c, Checks.word(x, -x, -x), 0, 1);
            handle(c, Checks.word(x, x, -x), 1, 2);
            handle(c, Checks.word(x, x), -1, -1);
        }
    }

    static void betweenThemMayStandAnyOthers(Checks c) {
        for (int x : letters(5)) {
            handle(c, Checks.word(x, -x), 0, 1);
            for (int y : letters(5)) {
                int apart = Math.abs(x) - Math.abs(y);
                if (apart != 0 && apart != 1) {
                    handle(c, Checks.word(x, y, -x), 0, 2);
                    handle(c, Checks.word(x, y, y, -x), 0, 3);
                }
            }
        }
        handle(c, Checks.word(3, 1, 4, -5, 1, -5, -3), 0, 6);
        handle(c, Checks.word(-1, 3, 4, 2, 5, 4, 2, 1), 0, 7);
    }

    static void theFirstHandleEndsFirst(Checks c) {
        // One within the other, one behind the other, and two that overlap.
        handle(c, Checks.word(1, 2, -2, -1), 1, 2);
        handle(c, Checks.word(5, -5, 1, -1), 0, 1);
        handle(c, Checks.word(1, -1, 5, -5), 0, 1);
        handle(c, Checks.word(3, 1, -3, -1), 0, 2);
        handle(c, Checks.word(1, 3, -1, -3), 0, 2);
        handle(c, Checks.word(1, 2, 3, 4, -3, -2, -1), 2, 4);
    }

    static void ofSeveralItBeginsLast(Checks c) {
        handle(c, Checks.word(1, 1, -1), 1, 2);
        handle(c, Checks.word(-4, -4, -4, 2, 4), 2, 4);
        everyWord(c, NONE, 4, word -> {
            BraidModel.Handle due = BraidModel.firstHandle(word);
            BraidWords braid = Checks.braid(4, NONE, word);
            c.due("the first letter of the first handle of " + word, braid.handle(1, 0), due == null ? -1 : due.first());
            c.due("the last letter of the first handle of " + word, braid.handle(1, 1), due == null ? -1 : due.last());
        });
    }

    interface OneWord {
        void look(List<Integer> word);
    }

    /** Every word of at most so many letters, for 4 ropes, which begins so. */
    private static void everyWord(Checks c, List<Integer> begin, int most, OneWord look) {
        look.look(begin);
        if (begin.size() < most) {
            for (int letter : letters(3)) {
                everyWord(c, BraidModel.oneBehindTheOther(begin, List.of(letter)), most, look);
            }
        }
    }

    // ---- cutting

    private static void cuts(Checks c, List<Integer> word, List<Integer> due) {
        for (int at = 0; at <= 1; at++) {
            int w = at;
            Given given = Given.of(6, w, word, Checks.word(2, -2));
            c.makes("cut(" + w + ")", given, braid -> braid.cut(w), due.size(), given.with(w, due));
        }
    }

    static void cuttingLeavesOutTheEnds(Checks c) {
        for (int x : letters(5)) {
            cuts(c, Checks.word(x, -x), NONE);
            cuts(c, Checks.word(x, x, -x, -x), Checks.word(x, -x));
        }
    }

    static void cuttingMakesThreeOfEachAbove(Checks c) {
        for (int i = 1; i <= 4; i++) {
            int j = i + 1;
            cuts(c, Checks.word(i, j, -i), Checks.word(-j, i, j));
            cuts(c, Checks.word(i, -j, -i), Checks.word(-j, -i, j));
            cuts(c, Checks.word(-i, j, i), Checks.word(j, i, -j));
            cuts(c, Checks.word(-i, -j, i), Checks.word(j, -i, -j));
            cuts(c, Checks.word(i, j, j, -i), Checks.word(-j, i, j, -j, i, j));
        }
    }

    static void cuttingLetsAllOthersStay(Checks c) {
        // Ahead of the handle, behind it, and between its ends two heights or more above or below.
        cuts(c, Checks.word(2, -3, 1, -1, 2, 3), Checks.word(2, -3, 2, 3));
        cuts(c, Checks.word(1, 3, -4, 5, -1), Checks.word(3, -4, 5));
        cuts(c, Checks.word(4, 1, -2, -4), Checks.word(1, -2));
        cuts(c, Checks.word(3, 2, -1, 3, 4, 2, 1), Checks.word(3, 2, 3, 4, 2, 1, -2));
        // A letter of the height above that stands ahead of the handle, or behind it, stays one.
        cuts(c, Checks.word(2, 1, -1, 2), Checks.word(2, 2));
        cuts(c, Checks.word(5, -4, 4, 5), Checks.word(5, 5));
    }

    // ---- plain forms

    private static void plain(Checks c, int ropes, List<Integer> word, int... due) {
        for (int what = 0; what <= 3; what++) {
            int w = what;
            c.tells("plain(0, " + w + ")", new Given(ropes, word, NONE), braid -> braid.plain(0, w), due[w]);
            c.tells("plain(1, " + w + ")", new Given(ropes, NONE, word), braid -> braid.plain(1, w), due[w]);
        }
    }

    static void plainFormIsWhatCutLeaves(Checks c) {
        plain(c, 3, Checks.word(2, 1, 2), 3, 0, 1, 1);
        // Behind the cuts: 1 2 -2 -1 2 -2, then 1 -1 2 -2, then 2 -2, then none.
        plain(c, 3, Checks.word(1, 2, 1, -2, -1, -2), 0, 4, 0, 0);
        // Behind the cuts: -2 1 2 -2, then -2 1.
        plain(c, 3, Checks.word(1, 2, -1, -2), 2, 2, 1, 1);
        everyWord(c, NONE, 4, word -> {
            BraidWords braid = Checks.braid(4, word, word);
            int cuts = 0;
            while (braid.handle(0, 0) >= 0 && cuts < 100) {
                braid.cut(0);
                cuts++;
            }
            c.due("the cuts of " + word, braid.plain(1, 1), cuts);
            c.due("the letters of the plain form of " + word, braid.plain(1, 0), braid.count(1));
            c.due("the word cut by cut is plain, of " + word, braid.plain(0, 1), 0);
        });
    }

    /** Of both words, the first one turned round and the other one behind it are 1, so many 2, -1, and so many 2 again. */
    private static Given growing(int within, int behind) {
        List<Integer> word = new ArrayList<>(Checks.word(1));
        word.addAll(Checks.repeated(within, 2));
        word.add(-1);
        word.addAll(Checks.repeated(behind, 2));
        return new Given(3, BraidModel.turnedRound(word.subList(0, 30)), word.subList(30, word.size()));
    }

    private static void tellsOfBoth(Checks c, Given given, int same, int ahead) {
        c.tells("same()", given, BraidWords::same, same);
        c.tells("ahead()", given, BraidWords::ahead, ahead);
    }

    static void lostByItsFirstCut(Checks c) {
        // Each 2 within gives 2 letters more, and the ends are left out: 60 + 2 * 21 - 2 are 100.
        tellsOfBoth(c, growing(21, 37), 0, 1);
        tellsOfBoth(c, growing(22, 34), 0, 1);
        tellsOfBoth(c, growing(22, 35), -9, -9);
        tellsOfBoth(c, growing(22, 36), -9, -9);
        tellsOfBoth(c, growing(28, 30), -9, -9);
    }

    static void lostByItsCuts(Checks c) {
        for (int ropes = 3; ropes <= 6; ropes++) {
            List<Integer> just = EdgeWords.CUTS_100.get(ropes - 3);
            c.tells("plain(0, 1)", new Given(ropes, just, NONE), braid -> braid.plain(0, 1), 100);
            List<Integer> lost = EdgeWords.CUTS_101.get(ropes - 3);
            c.tells("plain(1, 1)", new Given(ropes, NONE, lost), braid -> braid.plain(1, 1), -9);
        }
    }

    static void wordsInThoughtHaveMoreThan30Letters(Checks c) {
        for (int ropes = 3; ropes <= 6; ropes++) {
            int top = ropes - 1;
            tellsOfBoth(c, new Given(ropes, Checks.repeated(30, top), Checks.repeated(30, top)), 1, 0);
            tellsOfBoth(c, new Given(ropes, Checks.repeated(30, top), Checks.repeated(30, -top)), 0, -1);
            tellsOfBoth(c, new Given(ropes, Checks.repeated(29, -1), Checks.repeated(30, 1)), 0, 1);
            tellsOfBoth(c, new Given(ropes, NONE, EdgeWords.CUTS_101.get(ropes - 3)), -9, -9);
            c.tells("advise(0)", Given.of(ropes, 0, Checks.repeated(30, top), NONE), braid -> braid.advise(0), -top);
        }
    }

    static void theSignIsThatOfTheLeastHeight(Checks c) {
        plain(c, 3, NONE, 0, 0, 0, 0);
        plain(c, 6, Checks.word(5, -3, 4, -3, 5), 5, 0, -1, 3);
        plain(c, 6, Checks.word(-5, 3, -4, 3, -5), 5, 0, 1, 3);
        plain(c, 4, Checks.word(-3, -3, 2), 3, 0, 1, 2);
        plain(c, 4, Checks.word(3, 3, -1, 3, 3), 5, 0, -1, 1);
        everyWord(c, NONE, 4, word -> {
            BraidModel.Plain due = BraidModel.plainForm(word);
            BraidWords braid = Checks.braid(4, NONE, word);
            c.due("the sign of " + word, braid.plain(1, 2), due.sign());
            c.due("the least height of " + word, braid.plain(1, 3), due.leastHeight());
            c.due("the sign of the empty word, with " + word + " behind it", braid.ahead(), due.sign());
        });
    }

    static void sameIsAnEmptyPlainForm(Checks c) {
        tellsOfBoth(c, Given.empty(3), 1, 0);
        tellsOfBoth(c, new Given(3, Checks.word(1, 2, 1), Checks.word(2, 1, 2)), 1, 0);
        tellsOfBoth(c, new Given(4, Checks.word(1, -3), Checks.word(-3, 1)), 1, 0);
        tellsOfBoth(c, new Given(3, Checks.word(1, 2, -1), Checks.word(-2, 1, 2)), 1, 0);
        tellsOfBoth(c, new Given(3, Checks.word(2, 1), Checks.word(2)), 0, -1);
        everyWord(c, NONE, 3, one -> everyWord(c, NONE, 2, other -> {
            Given given = new Given(4, one, other);
            BraidModel.Plain due = given.model().difference();
            c.due("same() on " + given, given.braid().same(), due.letters().isEmpty() ? 1 : 0);
        }));
    }
}
