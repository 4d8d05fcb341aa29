/** Braids of ropes, told as words. */
public final class BraidWords {
    private static final int FEWEST_ROPES = 3;
    private static final int MOST_ROPES = 6;
    private static final int MOST_LETTERS = 30;
    private static final int MOST_LETTERS_IN_THOUGHT = 100;
    private static final int MOST_CUTS = 100;

    private static final int COUNTS = 5;
    private static final int HANDLE_ANSWERS = 3;
    private static final int PLAIN_ANSWERS = 4;

    private static final int LOST = -9;
    private static final int NOWHERE = -1;

    private static final long DIGEST_START = 1511L;
    private static final long DIGEST_FACTOR = 31L;

    private final Row word0;
    private final Row word1;
    // Made once and used by every call again, so that no call makes an object.
    private final Row thought;
    private final Row spare;
    private int ropes;

    public BraidWords() {
        word0 = new Row();
        word1 = new Row();
        thought = new Row();
        spare = new Row();
        ropes = FEWEST_ROPES;
    }

    // ---- words.

    public int setRopes(int ropes) throws IllegalArgumentException {
        if (ropes < FEWEST_ROPES || ropes > MOST_ROPES) {
            throw new IllegalArgumentException("ropes is not 3 to 6");
        }
        int before = this.ropes;
        this.ropes = ropes;
        word0.clear();
        word1.clear();
        return before;
    }

    public int twist(int word, int letter)
            throws IndexOutOfBoundsException, IllegalArgumentException, IllegalStateException {
        requireWord(word);
        requireLetter(letter);
        Row row = rowOf(word);
        requireRoom(row, 1);
        row.add(letter);
        return row.size();
    }

    public int untwist(int word) throws IndexOutOfBoundsException, IllegalStateException {
        requireWord(word);
        Row row = rowOf(word);
        if (row.size() == 0) {
            throw new IllegalStateException("the word is empty");
        }
        int last = row.at(row.size() - 1);
        row.dropLast();
        return last;
    }

    public int turn(int word) throws IndexOutOfBoundsException {
        requireWord(word);
        Row row = rowOf(word);
        spare.clear();
        spare.addTurnedRound(row);
        row.copy(spare);
        return row.size();
    }

    public int join(int word) throws IndexOutOfBoundsException, IllegalStateException {
        requireWord(word);
        Row row = rowOf(word);
        Row other = rowOf(1 - word);
        requireRoom(row, other.size());
        row.addAll(other);
        return row.size();
    }

    // ---- moves.

    public int swap(int word, int place) throws IndexOutOfBoundsException, IllegalStateException {
        requireWord(word);
        Row row = rowOf(word);
        requirePlace(place, row.size() - 1);
        int left = row.at(place);
        int right = row.at(place + 1);
        if (heightsApart(left, right) < 2) {
            throw new IllegalStateException("the heights differ by less than 2");
        }
        row.set(place, right);
        row.set(place + 1, left);
        return right;
    }

    public int about(int word, int place) throws IndexOutOfBoundsException, IllegalStateException {
        requireWord(word);
        Row row = rowOf(word);
        requirePlace(place, row.size() - 2);
        int outer = row.at(place);
        int inner = row.at(place + 1);
        if (row.at(place + 2) != outer
                || signOf(inner) != signOf(outer)
                || heightsApart(inner, outer) != 1) {
            throw new IllegalStateException("the three letters can't be turned about");
        }
        row.set(place, inner);
        row.set(place + 1, outer);
        row.set(place + 2, inner);
        return inner;
    }

    public int insert(int word, int place, int letter)
            throws IndexOutOfBoundsException, IllegalArgumentException, IllegalStateException {
        requireWord(word);
        Row row = rowOf(word);
        requirePlace(place, row.size() + 1);
        requireLetter(letter);
        requireRoom(row, 2);
        row.putIn(place, -letter);
        row.putIn(place, letter);
        return row.size();
    }

    public int cut(int word) throws IndexOutOfBoundsException, IllegalStateException {
        requireWord(word);
        Row row = rowOf(word);
        int last = lastOfFirstHandle(row, 0);
        if (last == NOWHERE) {
            throw new IllegalStateException("the word has no handle");
        }
        int first = firstOfHandle(row, last);
        requireRoom(row, moreByCutting(row, first, last));
        cutHandle(row, first, last);
        return row.size();
    }

    // ---- what is there.

    public int letter(int word, int place) throws IndexOutOfBoundsException {
        requireWord(word);
        Row row = rowOf(word);
        requirePlace(place, row.size());
        return row.at(place);
    }

    public int count(int what) throws IndexOutOfBoundsException {
        requireAnswer(what, COUNTS);
        return countAnswer(what);
    }

    public int end(int word, int rope) throws IndexOutOfBoundsException {
        requireWord(word);
        requireRope(rope);
        return placeAtEnd(rowOf(word), rope);
    }

    public int crosses(int word, int a, int b)
            throws IndexOutOfBoundsException, IllegalArgumentException {
        requireWord(word);
        requireRope(a);
        requireRope(b);
        if (a == b) {
            throw new IllegalArgumentException("both ropes are the same");
        }
        return signsOfCrossings(rowOf(word), a, b);
    }

    public int handle(int word, int what) throws IndexOutOfBoundsException {
        requireWord(word);
        requireAnswer(what, HANDLE_ANSWERS);
        return handleAnswer(rowOf(word), what);
    }

    // ---- plain forms.

    public int plain(int word, int what) throws IndexOutOfBoundsException {
        requireWord(word);
        requireAnswer(what, PLAIN_ANSWERS);
        thought.copy(rowOf(word));
        return plainAnswer(makeThoughtPlain(), what);
    }

    public int same() {
        thinkOfDifference();
        return sameAnswer(makeThoughtPlain());
    }

    public int ahead() {
        thinkOfDifference();
        return signAnswer(makeThoughtPlain());
    }

    public int advise(int word) throws IndexOutOfBoundsException, IllegalStateException {
        requireWord(word);
        Row row = rowOf(word);
        thought.copy(row);
        if (makeThoughtPlain() == LOST) {
            throw new IllegalStateException("the word is lost");
        }
        return letterForFewest(row, thought.size());
    }

    public double mean() {
        int letters = word0.size() + word1.size();
        if (letters == 0) {
            return 0.0;
        }
        return (double) (heightsAdded(word0) + heightsAdded(word1)) / (double) letters;
    }

    public long digest() {
        long d = DIGEST_START;
        for (int what = 0; what < COUNTS; what++) {
            d = digested(d, countAnswer(what));
        }
        d = digestedWord(d, word0);
        d = digestedWord(d, word1);
        thinkOfDifference();
        int cuts = makeThoughtPlain();
        d = digested(d, sameAnswer(cuts));
        return digested(d, signAnswer(cuts));
    }

    // ---- what calls refuse

    private static void requireWord(int word) {
        if (word < 0 || word > 1) {
            throw new IndexOutOfBoundsException("word is not 0 to 1");
        }
    }

    private static void requirePlace(int place, int places) {
        if (place < 0 || place >= places) {
            throw new IndexOutOfBoundsException("there is no such place");
        }
    }

    private static void requireAnswer(int what, int answers) {
        if (what < 0 || what >= answers) {
            throw new IndexOutOfBoundsException("there is no such answer");
        }
    }

    private void requireRope(int rope) {
        if (rope < 0 || rope >= ropes) {
            throw new IndexOutOfBoundsException("there is no such rope");
        }
    }

    // Asks for no height: the least int has none, as it can't be turned round.
    private void requireLetter(int letter) {
        if (letter == 0 || letter <= -ropes || letter >= ropes) {
            throw new IllegalArgumentException("there is no such letter");
        }
    }

    private static void requireRoom(Row row, int more) {
        if (row.size() + more > MOST_LETTERS) {
            throw new IllegalStateException("these are more letters than a word holds");
        }
    }

    // ---- letters and ropes

    private Row rowOf(int word) {
        return word == 0 ? word0 : word1;
    }

    private static int heightOf(int letter) {
        return letter < 0 ? -letter : letter;
    }

    private static int signOf(int letter) {
        return letter < 0 ? -1 : letter > 0 ? 1 : 0;
    }

    private static int heightsApart(int one, int other) {
        return heightOf(heightOf(one) - heightOf(other));
    }

    private static int heightsAdded(Row row) {
        int sum = 0;
        for (int place = 0; place < row.size(); place++) {
            sum += heightOf(row.at(place));
        }
        return sum;
    }

    private static int signsAdded(Row row) {
        int sum = 0;
        for (int place = 0; place < row.size(); place++) {
            sum += signOf(row.at(place));
        }
        return sum;
    }

    private int countAnswer(int what) {
        switch (what) {
            case 0:
                return ropes;
            case 1:
                return word0.size();
            case 2:
                return word1.size();
            case 3:
                return signsAdded(word0);
            default:
                return signsAdded(word1);
        }
    }

    private static int placeBehind(int letter, int place) {
        int height = heightOf(letter);
        if (place == height - 1) {
            return height;
        }
        return place == height ? height - 1 : place;
    }

    private static int placeAtEnd(Row row, int rope) {
        int hangs = rope;
        for (int place = 0; place < row.size(); place++) {
            hangs = placeBehind(row.at(place), hangs);
        }
        return hangs;
    }

    private static int signsOfCrossings(Row row, int a, int b) {
        int sum = 0;
        int hangsA = a;
        int hangsB = b;
        for (int place = 0; place < row.size(); place++) {
            int letter = row.at(place);
            int nextA = placeBehind(letter, hangsA);
            int nextB = placeBehind(letter, hangsB);
            // Two ropes never hang at one place, so both move only with each other.
            if (nextA != hangsA && nextB != hangsB) {
                sum += signOf(letter);
            }
            hangsA = nextA;
            hangsB = nextB;
        }
        return sum;
    }

    // ---- handles

    private static int lastOfFirstHandle(Row row, int from) {
        for (int last = from; last < row.size(); last++) {
            if (firstOfHandle(row, last) != NOWHERE) {
                return last;
            }
        }
        return NOWHERE;
    }

    private static int firstOfHandle(Row row, int last) {
        int letter = row.at(last);
        int height = heightOf(letter);
        for (int place = last - 1; place >= 0; place--) {
            int other = row.at(place);
            if (other == -letter) {
                return place;
            }
            if (heightOf(other) == height || heightOf(other) == height - 1) {
                return NOWHERE;
            }
        }
        return NOWHERE;
    }

    private static int moreByCutting(Row row, int first, int last) {
        int above = heightOf(row.at(first)) + 1;
        int more = -2;
        for (int place = first + 1; place < last; place++) {
            if (heightOf(row.at(place)) == above) {
                more += 2;
            }
        }
        return more;
    }

    private void cutHandle(Row row, int first, int last) {
        int letter = row.at(first);
        int above = heightOf(letter) + 1;
        spare.clear();
        for (int place = 0; place < row.size(); place++) {
            int other = row.at(place);
            if (place == first || place == last) {
                continue;
            }
            if (place > first && place < last && heightOf(other) == above) {
                spare.add(-signOf(letter) * above);
                spare.add(signOf(other) * heightOf(letter));
                spare.add(signOf(letter) * above);
            } else {
                spare.add(other);
            }
        }
        row.copy(spare);
    }

    private static int handleAnswer(Row row, int what) {
        int last = lastOfFirstHandle(row, 0);
        if (last == NOWHERE) {
            return what == 2 ? 0 : NOWHERE;
        }
        int first = firstOfHandle(row, last);
        switch (what) {
            case 0:
                return first;
            case 1:
                return last;
            default:
                return moreByCutting(row, first, last);
        }
    }

    // ---- plain forms of the word in thought

    /** Returns the cuts that it took, or LOST. */
    private int makeThoughtPlain() {
        int from = 0;
        for (int cuts = 0; cuts <= MOST_CUTS; cuts++) {
            int last = lastOfFirstHandle(thought, from);
            if (last == NOWHERE) {
                return cuts;
            }
            int first = firstOfHandle(thought, last);
            if (thought.size() + moreByCutting(thought, first, last) > MOST_LETTERS_IN_THOUGHT) {
                return LOST;
            }
            cutHandle(thought, first, last);
            // No handle ended ahead of the one cut, and what stands ahead of it stays.
            from = first;
        }
        // A handle was there still behind all cuts allowed; that it is cut, too, is seen by no call.
        return LOST;
    }

    private void thinkOfDifference() {
        thought.clear();
        thought.addTurnedRound(word0);
        thought.addAll(word1);
    }

    private int plainAnswer(int cuts, int what) {
        if (cuts == LOST) {
            return LOST;
        }
        switch (what) {
            case 0:
                return thought.size();
            case 1:
                return cuts;
            case 2:
                return signOf(lowestLetter(thought));
            default:
                return heightOf(lowestLetter(thought));
        }
    }

    private int sameAnswer(int cuts) {
        if (cuts == LOST) {
            return LOST;
        }
        return thought.size() == 0 ? 1 : 0;
    }

    private int signAnswer(int cuts) {
        return plainAnswer(cuts, 2);
    }

    private static int lowestLetter(Row row) {
        int lowest = row.at(0);
        for (int place = 1; place < row.size(); place++) {
            if (heightOf(row.at(place)) < heightOf(lowest)) {
                lowest = row.at(place);
            }
        }
        return lowest;
    }

    private int letterForFewest(Row row, int lettersWithout) {
        int best = 0;
        int fewest = lettersWithout;
        for (int height = 1; height < ropes; height++) {
            for (int sign = 1; sign >= -1; sign -= 2) {
                int letters = plainLettersWith(row, sign * height);
                if (letters != LOST && letters < fewest) {
                    fewest = letters;
                    best = sign * height;
                }
            }
        }
        return best;
    }

    private int plainLettersWith(Row row, int letter) {
        thought.copy(row);
        thought.add(letter);
        return plainAnswer(makeThoughtPlain(), 0);
    }

    // ---- digest

    private static long digested(long d, long x) {
        return d * DIGEST_FACTOR + x;
    }

    private long digestedWord(long before, Row row) {
        long d = before;
        for (int place = 0; place < row.size(); place++) {
            d = digested(d, row.at(place));
        }
        for (int rope = 0; rope < ropes; rope++) {
            d = digested(d, placeAtEnd(row, rope));
        }
        for (int what = 0; what < HANDLE_ANSWERS; what++) {
            d = digested(d, handleAnswer(row, what));
        }
        thought.copy(row);
        int cuts = makeThoughtPlain();
        for (int what = 0; what < PLAIN_ANSWERS; what++) {
            d = digested(d, plainAnswer(cuts, what));
        }
        return d;
    }

    /** Letters in a row; a place without a letter reads as 0, and a full row takes no more. */
    private static final class Row {
        private final int[] letters;
        private int size;

        Row() {
            letters = new int[MOST_LETTERS_IN_THOUGHT];
            size = 0;
        }

        int size() {
            return size;
        }

        int at(int place) {
            if (place < 0 || place >= size || place >= letters.length) {
                return 0;
            }
            return letters[place];
        }

        void set(int place, int letter) {
            if (place >= 0 && place < size && place < letters.length) {
                letters[place] = letter;
            }
        }

        void add(int letter) {
            if (size >= 0 && size < letters.length) {
                letters[size] = letter;
                size++;
            }
        }

        void putIn(int place, int letter) {
            add(letter);
            for (int to = size - 1; to > place; to--) {
                set(to, at(to - 1));
            }
            set(place, letter);
        }

        void dropLast() {
            if (size > 0) {
                size--;
            }
        }

        void clear() {
            size = 0;
        }

        void addAll(Row other) {
            // Counted ahead of the loop, so that it ends for any two rows.
            int many = other.size();
            for (int place = 0; place < many; place++) {
                add(other.at(place));
            }
        }

        void addTurnedRound(Row other) {
            for (int place = other.size() - 1; place >= 0; place--) {
                add(-other.at(place));
            }
        }

        void copy(Row other) {
            size = 0;
            int many = other.size();
            for (int place = 0; place < many; place++) {
                add(other.at(place));
            }
        }
    }
}
