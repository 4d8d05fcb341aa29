import java.util.ArrayList;
import java.util.Collections;
import java.util.List;

/**
 * The document said a second time, as slowly and as near to its words as can be:
 * no handle is looked for but by trying every part of a word, and nothing is kept between calls.
 * Due answers of the tests come from here, or are written out by hand.
 */
final class BraidModel {
    static final int LOST = -9;

    int ropes = 3;
    final List<List<Integer>> words = new ArrayList<>(List.of(new ArrayList<>(), new ArrayList<>()));

    /** A plain form, or null in its place if it is lost. */
    record Plain(List<Integer> letters, int cuts) {
        int leastHeight() {
            return letters.stream().mapToInt(Math::abs).min().orElse(0);
        }

        int sign() {
            int least = leastHeight();
            int sign = 0;
            for (int letter : letters) {
                if (Math.abs(letter) == least) {
                    if (sign != 0 && sign != Integer.signum(letter)) {
                        throw new AssertionError("two signs at the least height of " + letters);
                    }
                    sign = Integer.signum(letter);
                }
            }
            return sign;
        }
    }

    record Handle(int first, int last) { }

    // ---- what words mean

    static boolean isHandle(List<Integer> word, int first, int last) {
        int letter = word.get(first);
        if (word.get(last) != -letter) {
            return false;
        }
        int height = Math.abs(letter);
        for (int between : word.subList(first + 1, last)) {
            if (Math.abs(between) == height || Math.abs(between) == height - 1) {
                return false;
            }
        }
        return true;
    }

    static Handle firstHandle(List<Integer> word) {
        for (int last = 0; last < word.size(); last++) {
            Handle found = null;
            for (int first = 0; first < last; first++) {
                if (isHandle(word, first, last)) {
                    if (found != null) {
                        throw new AssertionError("two handles end at " + last + " of " + word);
                    }
                    found = new Handle(first, last);
                }
            }
            if (found != null) {
                return found;
            }
        }
        return null;
    }

    static List<Integer> behindCutting(List<Integer> word, Handle handle) {
        int x = word.get(handle.first());
        int height = Math.abs(x);
        List<Integer> behind = new ArrayList<>(word.subList(0, handle.first()));
        for (int y : word.subList(handle.first() + 1, handle.last())) {
            if (Math.abs(y) == height + 1) {
                behind.add(x > 0 ? -(height + 1) : height + 1);
                behind.add(y > 0 ? height : -height);
                behind.add(x > 0 ? height + 1 : -(height + 1));
            } else {
                behind.add(y);
            }
        }
        behind.addAll(word.subList(handle.last() + 1, word.size()));
        return behind;
    }

    static Plain plainForm(List<Integer> word) {
        List<Integer> now = word;
        int cuts = 0;
        for (Handle handle = firstHandle(now); handle != null; handle = firstHandle(now)) {
            if (cuts == 100) {
                return null;
            }
            now = behindCutting(now, handle);
            cuts++;
            if (now.size() > 100) {
                return null;
            }
        }
        return new Plain(now, cuts);
    }

    static List<Integer> turnedRound(List<Integer> word) {
        List<Integer> round = new ArrayList<>();
        for (int letter : word) {
            round.add(-letter);
        }
        Collections.reverse(round);
        return round;
    }

    static List<Integer> oneBehindTheOther(List<Integer> one, List<Integer> other) {
        List<Integer> both = new ArrayList<>(one);
        both.addAll(other);
        return both;
    }

    Plain difference() {
        return plainForm(oneBehindTheOther(turnedRound(words.get(0)), words.get(1)));
    }

    // ---- the calls

    private List<Integer> word(int word) {
        if (word != 0 && word != 1) {
            throw new IndexOutOfBoundsException();
        }
        return words.get(word);
    }

    private void refuseIndexUnless(boolean holds) {
        if (!holds) {
            throw new IndexOutOfBoundsException();
        }
    }

    private void refuseStateUnless(boolean holds) {
        if (!holds) {
            throw new IllegalStateException();
        }
    }

    private void refuseLetter(int letter) {
        if (letter == 0 || Math.abs((long) letter) >= ropes) {
            throw new IllegalArgumentException();
        }
    }

    int setRopes(int many) {
        if (many < 3 || many > 6) {
            throw new IllegalArgumentException();
        }
        int before = ropes;
        ropes = many;
        words.get(0).clear();
        words.get(1).clear();
        return before;
    }

    int twist(int word, int letter) {
        List<Integer> letters = word(word);
        refuseLetter(letter);
        refuseStateUnless(letters.size() < 30);
        letters.add(letter);
        return letters.size();
    }

    int untwist(int word) {
        List<Integer> letters = word(word);
        refuseStateUnless(!letters.isEmpty());
        return letters.remove(letters.size() - 1);
    }

    private int become(int word, List<Integer> letters) {
        words.set(word, new ArrayList<>(letters));
        return letters.size();
    }

    int turn(int word) {
        return become(word, turnedRound(word(word)));
    }

    int join(int word) {
        List<Integer> both = oneBehindTheOther(word(word), words.get(1 - word));
        refuseStateUnless(both.size() <= 30);
        return become(word, both);
    }

    int swap(int word, int place) {
        List<Integer> letters = word(word);
        refuseIndexUnless(place >= 0 && place + 1L < letters.size());
        refuseStateUnless(Math.abs(Math.abs(letters.get(place)) - Math.abs(letters.get(place + 1))) >= 2);
        Collections.swap(letters, place, place + 1);
        return letters.get(place);
    }

    int about(int word, int place) {
        List<Integer> letters = word(word);
        refuseIndexUnless(place >= 0 && place + 2L < letters.size());
        int x = letters.get(place);
        int y = letters.get(place + 1);
        refuseStateUnless(letters.get(place + 2) == x && (x > 0) == (y > 0) && Math.abs(x - y) == 1);
        letters.set(place, y);
        letters.set(place + 1, x);
        letters.set(place + 2, y);
        return y;
    }

    int insert(int word, int place, int letter) {
        List<Integer> letters = word(word);
        refuseIndexUnless(place >= 0 && place <= letters.size());
        refuseLetter(letter);
        refuseStateUnless(letters.size() <= 28);
        letters.addAll(place, List.of(letter, -letter));
        return letters.size();
    }

    int cut(int word) {
        Handle handle = firstHandle(word(word));
        refuseStateUnless(handle != null);
        List<Integer> behind = behindCutting(word(word), handle);
        refuseStateUnless(behind.size() <= 30);
        return become(word, behind);
    }

    int letter(int word, int place) {
        List<Integer> letters = word(word);
        refuseIndexUnless(place >= 0 && place < letters.size());
        return letters.get(place);
    }

    int count(int what) {
        refuseIndexUnless(what >= 0 && what <= 4);
        if (what == 0) {
            return ropes;
        }
        if (what <= 2) {
            return words.get(what - 1).size();
        }
        return words.get(what - 3).stream().mapToInt(Integer::signum).sum();
    }

    private List<Integer> hungUp() {
        List<Integer> row = new ArrayList<>();
        for (int rope = 0; rope < ropes; rope++) {
            row.add(rope);
        }
        return row;
    }

    int end(int word, int rope) {
        List<Integer> letters = word(word);
        refuseIndexUnless(rope >= 0 && rope < ropes);
        List<Integer> row = hungUp();
        for (int letter : letters) {
            Collections.swap(row, Math.abs(letter) - 1, Math.abs(letter));
        }
        return row.indexOf(rope);
    }

    int crosses(int word, int a, int b) {
        List<Integer> letters = word(word);
        refuseIndexUnless(a >= 0 && a < ropes && b >= 0 && b < ropes);
        if (a == b) {
            throw new IllegalArgumentException();
        }
        List<Integer> row = hungUp();
        int sum = 0;
        for (int letter : letters) {
            int height = Math.abs(letter);
            if (List.of(a, b).containsAll(row.subList(height - 1, height + 1))) {
                sum += Integer.signum(letter);
            }
            Collections.swap(row, height - 1, height);
        }
        return sum;
    }

    int handle(int word, int what) {
        List<Integer> letters = word(word);
        refuseIndexUnless(what >= 0 && what <= 2);
        Handle handle = firstHandle(letters);
        if (handle == null) {
            return what == 2 ? 0 : -1;
        }
        return what == 0 ? handle.first() : what == 1 ? handle.last()
                : behindCutting(letters, handle).size() - letters.size();
    }

    int plain(int word, int what) {
        List<Integer> letters = word(word);
        refuseIndexUnless(what >= 0 && what <= 3);
        Plain plain = plainForm(letters);
        if (plain == null) {
            return LOST;
        }
        return List.of(plain.letters().size(), plain.cuts(), plain.sign(), plain.leastHeight()).get(what);
    }

    int same() {
        Plain plain = difference();
        return plain == null ? LOST : plain.letters().isEmpty() ? 1 : 0;
    }

    int ahead() {
        Plain plain = difference();
        return plain == null ? LOST : plain.sign();
    }

    int advise(int word) {
        List<Integer> letters = word(word);
        Plain without = plainForm(letters);
        refuseStateUnless(without != null);
        int best = 0;
        int fewest = without.letters().size();
        for (int height = ropes - 1; height >= 1; height--) {
            for (int letter : new int[] {-height, height}) {
                Plain with = plainForm(oneBehindTheOther(letters, List.of(letter)));
                boolean better = with != null && with.letters().size() < without.letters().size();
                if (better && with.letters().size() <= fewest) {
                    fewest = with.letters().size();
                    best = letter;
                }
            }
        }
        return best;
    }

    double mean() {
        return oneBehindTheOther(words.get(0), words.get(1)).stream().mapToInt(Math::abs).average().orElse(0);
    }

    long digest() {
        List<Integer> told = new ArrayList<>();
        for (int what = 0; what <= 4; what++) {
            told.add(count(what));
        }
        for (int word = 0; word <= 1; word++) {
            told.addAll(words.get(word));
            for (int rope = 0; rope < ropes; rope++) {
                told.add(end(word, rope));
            }
            for (int what = 0; what <= 2; what++) {
                told.add(handle(word, what));
            }
            for (int what = 0; what <= 3; what++) {
                told.add(plain(word, what));
            }
        }
        told.add(same());
        told.add(ahead());
        long d = 1511;
        for (int x : told) {
            d = d * 31 + x;
        }
        return d;
    }
}
