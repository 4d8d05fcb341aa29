import java.util.ArrayList;
import java.util.List;

/** Words that are just lost, and words that are just not. */
final class EdgeTests {
    private EdgeTests() { }

    static void hundredCutsAreNotTooMany(Checks c) {
        for (int at = 0; at < 4; at++) {
            List<Integer> word = EdgeWords.CUTS_100.get(at);
            Course course = course(word);
            c.due("cuts of " + word, course.cuts(), 100);
            c.due("never over 100 letters", course.mostLetters() <= 100, true);
            BraidWords braid = Checks.braid(3 + at, word, word);
            c.due("plain letters", braid.plain(0, 0), course.plain().size());
            c.due("plain cuts", braid.plain(0, 1), 100);
            c.due("plain cuts of word 1", braid.plain(1, 1), 100);
            // A letter that makes it shorter needs a 101st cut, and is none therefore.
            c.due("advise", braid.advise(0), 0);
            c.due("digest", braid.digest(), Checks.model(3 + at, word, word).digest());
        }
    }

    static void hundredAndOneCutsAreLost(Checks c) {
        for (int at = 0; at < 4; at++) {
            List<Integer> word = EdgeWords.CUTS_101.get(at);
            Course course = course(word);
            c.due("cuts of " + word, course.cuts(), 101);
            c.due("never over 100 letters", course.mostLetters() <= 100, true);
            BraidWords braid = Checks.braid(3 + at, word, word);
            for (int what = 0; what <= 3; what++) {
                c.due("plain(0, " + what + ")", braid.plain(0, what), -9);
                c.due("plain(1, " + what + ")", braid.plain(1, what), -9);
            }
            c.refused("advise(0)", Checks.STATE, braid, () -> braid.advise(0));
            c.refused("advise(1)", Checks.STATE, braid, () -> braid.advise(1));
            c.refused("advise(2)", Checks.INDEX, braid, () -> braid.advise(2));
            c.refused("plain(0, 4)", Checks.INDEX, braid, () -> braid.plain(0, 4));
            c.due("digest", braid.digest(), Checks.model(3 + at, word, word).digest());
            BraidWords behindNone = Checks.braid(3 + at, List.of(), word);
            c.due("same()", behindNone.same(), -9);
            c.due("ahead()", behindNone.ahead(), -9);
        }
    }

    static void hundredLettersAreNotTooMany(Checks c) {
        for (int at = 0; at < 4; at++) {
            List<Integer> word = EdgeWords.LETTERS_100.get(at);
            Course course = course(word);
            c.due("most letters of " + word, course.mostLetters(), 100);
            c.due("at most 100 cuts", course.cuts() <= 100, true);
            BraidWords braid = split(3 + at, word);
            c.due("same()", braid.same(), course.plain().isEmpty() ? 1 : 0);
            c.due("ahead()", braid.ahead(), new BraidModel.Plain(course.plain(), 0).sign());
        }
    }

    static void moreThanHundredLettersAreLost(Checks c) {
        for (int at = 0; at < 4; at++) {
            List<Integer> word = EdgeWords.LETTERS_OVER_100.get(at);
            Course course = course(word);
            c.due("most letters of " + word, course.mostLetters(), word.size() == 59 ? 101 : 102);
            c.due("at most 100 cuts", course.cuts() <= 100, true);
            BraidWords braid = split(3 + at, word);
            c.due("same()", braid.same(), -9);
            c.due("ahead()", braid.ahead(), -9);
        }
    }

    static void lostLettersAreNoAdvice(Checks c) {
        dueAdvise(c, 4, -2, Checks.word(1, 2, 2, -3, -2, 3, 1, 3, -2, 1, 1, -2, -2, -3, -2,
                -1, 1, -1, 2, 3, 3, -1, 2, -1, -1, 1, 1, 2, 1, -1));
        dueAdvise(c, 5, -3, Checks.word(4, 1, 4, -3, 1, 1, 1, -2, -2, 3, 4, 3, -2, -1, 1,
                3, -4, -1, -3, 4, -2, -1, 2, 2, -3, 4, 1, 2, 3, 4));
        dueAdvise(c, 6, -2, Checks.word(-2, -1, -3, 3, -1, -1, 2, 2, 2, 5, 2, 3, 3, 4, 4,
                1, -1, 3, 3, 1, 1, -2, -5, -1, -2, 5, 1, -5, -1, 2));
    }

    private static void dueAdvise(Checks c, int ropes, int due, List<Integer> word) {
        boolean lost = false;
        for (int letter = 1 - ropes; letter < ropes; letter++) {
            lost |= letter != 0 && BraidModel.plainForm(BraidModel.oneBehindTheOther(word, List.of(letter))) == null;
        }
        c.due("a letter loses " + word, lost, true);
        c.due("advise(1)", Checks.braid(ropes, List.of(), word).advise(1), due);
    }

    /** What cutting would come to if nothing were ever lost. */
    private record Course(List<Integer> plain, int cuts, int mostLetters) { }

    private static Course course(List<Integer> word) {
        List<Integer> now = new ArrayList<>(word);
        int cuts = 0;
        int most = 0;
        for (BraidModel.Handle handle = BraidModel.firstHandle(now); handle != null; handle = BraidModel.firstHandle(now)) {
            now = BraidModel.behindCutting(now, handle);
            cuts++;
            most = Math.max(most, now.size());
        }
        return new Course(now, cuts, most);
    }

    /** A braid whose two words' difference is this word. */
    private static BraidWords split(int ropes, List<Integer> word) {
        return Checks.braid(ropes, BraidModel.turnedRound(word.subList(0, 30)), word.subList(30, word.size()));
    }
}
