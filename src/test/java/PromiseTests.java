import java.util.List;

/** A test for each promise of the document: ordinary inputs, its edges, and wrong inputs. */
final class PromiseTests {
    private static final List<Integer> EMPTY = List.of();

    private PromiseTests() { }

    static void addTo(Tests tests) {
        tests.add("promise 1: a new object", PromiseTests::promise1NewObject);
        tests.add("promise 2: setRopes", PromiseTests::promise2SetRopes);
        tests.add("promise 3: twist", PromiseTests::promise3Twist);
        tests.add("promise 4: untwist", PromiseTests::promise4Untwist);
        tests.add("promise 5: turn", PromiseTests::promise5Turn);
        tests.add("promise 6: join", PromiseTests::promise6Join);
        tests.add("promise 7: swap", PromiseTests::promise7Swap);
        tests.add("promise 8: about", PromiseTests::promise8About);
        tests.add("promise 9: insert", PromiseTests::promise9Insert);
        tests.add("promise 10: cut", PromiseTests::promise10Cut);
        tests.add("promise 11: letter", PromiseTests::promise11Letter);
        tests.add("promise 12: count", PromiseTests::promise12Count);
        tests.add("promise 13: end", PromiseTests::promise13End);
        tests.add("promise 14: crosses", PromiseTests::promise14Crosses);
        tests.add("promise 15: handle", PromiseTests::promise15Handle);
        tests.add("promise 16: plain", PromiseTests::promise16Plain);
        tests.add("promise 17: same", PromiseTests::promise17Same);
        tests.add("promise 18: ahead", PromiseTests::promise18Ahead);
        tests.add("promise 19: advise", PromiseTests::promise19Advise);
        tests.add("promise 20: mean", PromiseTests::promise20Mean);
        tests.add("promise 21: digest", PromiseTests::promise21Digest);
    }

    static void promise1NewObject(Checks c) {
        BraidWords braid = new BraidWords();
        c.due("count(0)", braid.count(0), 3);
        c.due("count(1)", braid.count(1), 0);
        c.due("count(2)", braid.count(2), 0);
        c.due("twist(0, 2)", braid.twist(0, 2), 1);
        c.refused("twist(0, 3)", Checks.ARGUMENT, braid, () -> braid.twist(0, 3));
        c.due("count(1) of another object", new BraidWords().count(1), 0);
    }

    static void promise2SetRopes(Checks c) {
        BraidWords braid = Checks.braid(3, Checks.word(1, 2), Checks.word(-2));
        int before = 3;
        for (int ropes : new int[] {3, 4, 5, 6, 6, 3}) {
            c.due("setRopes(" + ropes + ")", braid.setRopes(ropes), before);
            c.due("state behind it", Checks.state(braid), List.of(ropes, 0, 0));
            c.due("greatest letter", braid.twist(0, ropes - 1), 1);
            c.due("least letter", braid.twist(1, 1 - ropes), 1);
            before = ropes;
        }
        for (int wrong : new int[] {2, 7, 0, 1, -3, -6}) {
            c.refused("setRopes(" + wrong + ")", Checks.ARGUMENT, braid, () -> braid.setRopes(wrong));
        }
        for (int wrong : Checks.FAR_OUT) {
            c.refused("setRopes(" + wrong + ")", Checks.ARGUMENT, braid, () -> braid.setRopes(wrong));
        }
    }

    static void promise3Twist(Checks c) {
        BraidWords braid = new BraidWords();
        c.due("twist(0, 1)", braid.twist(0, 1), 1);
        c.due("twist(0, -2)", braid.twist(0, -2), 2);
        c.due("twist(1, 2)", braid.twist(1, 2), 1);
        c.due("word 0", Checks.letters(braid, 0), Checks.word(1, -2));
        c.due("word 1", Checks.letters(braid, 1), Checks.word(2));
        wrongWords(c, braid, "twist", word -> braid.twist(word, 1));
        wrongLetters(c, braid, "twist", letter -> braid.twist(0, letter));
        c.refused("twist(2, 0)", Checks.INDEX, braid, () -> braid.twist(2, 0));
        for (int many = 3; many <= 30; many++) {
            c.due("twist to " + many, braid.twist(0, 1), many);
        }
        c.refused("twist of 31", Checks.STATE, braid, () -> braid.twist(0, 1));
        c.refused("twist of 31 by 3", Checks.ARGUMENT, braid, () -> braid.twist(0, 3));
        c.due("twist of the other word", braid.twist(1, 1), 2);
        BraidWords wide = Checks.braid(6, EMPTY, EMPTY);
        wrongLetters(c, wide, "twist", letter -> wide.twist(1, letter));
    }

    static void promise4Untwist(Checks c) {
        BraidWords braid = Checks.braid(4, Checks.word(1, -3), Checks.word(2));
        wrongWords(c, braid, "untwist", braid::untwist);
        c.due("untwist(0)", braid.untwist(0), -3);
        c.due("words", Checks.state(braid), List.of(4, 1, 1, 1, 2));
        c.due("untwist(0)", braid.untwist(0), 1);
        c.refused("untwist(0)", Checks.STATE, braid, () -> braid.untwist(0));
        c.due("untwist(1)", braid.untwist(1), 2);
        c.refused("untwist(1)", Checks.STATE, braid, () -> braid.untwist(1));
        BraidWords full = Checks.braid(3, Checks.repeated(15, 1, -2), EMPTY);
        c.due("untwist of 30", full.untwist(0), -2);
        c.due("letters then", Checks.letters(full, 0).size(), 29);
    }

    static void promise5Turn(Checks c) {
        BraidWords braid = Checks.braid(4, Checks.word(1, -3, 2), Checks.word(2, 3));
        wrongWords(c, braid, "turn", braid::turn);
        c.due("turn(0)", braid.turn(0), 3);
        c.due("word 0", Checks.letters(braid, 0), Checks.word(-2, 3, -1));
        c.due("word 1", Checks.letters(braid, 1), Checks.word(2, 3));
        c.due("turn(1)", braid.turn(1), 2);
        c.due("word 1", Checks.letters(braid, 1), Checks.word(-3, -2));
        BraidWords empty = new BraidWords();
        c.due("turn of none", empty.turn(0), 0);
        BraidWords full = Checks.braid(3, EMPTY, Checks.repeated(10, 1, -2, 2));
        c.due("turn of 30", full.turn(1), 30);
        c.due("word 1", Checks.letters(full, 1), Checks.repeated(10, -2, 2, -1));
    }

    static void promise6Join(Checks c) {
        BraidWords braid = Checks.braid(3, Checks.word(1, 2), Checks.word(-1));
        wrongWords(c, braid, "join", braid::join);
        c.due("join(0)", braid.join(0), 3);
        c.due("state", Checks.state(braid), List.of(3, 3, 1, 2, -1, 1, -1));
        c.due("join(1)", braid.join(1), 4);
        c.due("state", Checks.state(braid), List.of(3, 3, 1, 2, -1, 4, -1, 1, 2, -1));
        BraidWords halves = Checks.braid(3, Checks.repeated(15, 1), Checks.repeated(15, 2));
        c.due("join to 30", halves.join(1), 30);
        c.refused("join to 45", Checks.STATE, halves, () -> halves.join(0));
        BraidWords more = Checks.braid(3, Checks.repeated(16, 1), Checks.repeated(15, 2));
        c.refused("join to 31", Checks.STATE, more, () -> more.join(0));
        c.refused("join to 31", Checks.STATE, more, () -> more.join(1));
        BraidWords full = Checks.braid(3, Checks.repeated(30, 1), EMPTY);
        c.due("join of none", full.join(0), 30);
        c.due("join behind none", full.join(1), 30);
        c.due("word 1", Checks.letters(full, 1), Checks.repeated(30, 1));
    }

    static void promise7Swap(Checks c) {
        BraidWords braid = Checks.braid(5, Checks.word(1, -3, 4, 2, -4), Checks.word(1, 3));
        c.due("swap(0, 0)", braid.swap(0, 0), -3);
        c.due("swap(0, 3)", braid.swap(0, 3), -4);
        c.due("word 0", Checks.letters(braid, 0), Checks.word(-3, 1, 4, -4, 2));
        c.due("word 1", Checks.letters(braid, 1), Checks.word(1, 3));
        c.due("swap(1, 0)", braid.swap(1, 0), 3);
        c.due("word 1", Checks.letters(braid, 1), Checks.word(3, 1));
        c.refused("swap of 4, -4", Checks.STATE, braid, () -> braid.swap(0, 2));
        wrongWords(c, braid, "swap", word -> braid.swap(word, 0));
        wrongPlaces(c, braid, "swap", 4, place -> braid.swap(0, place));
        BraidWords near = Checks.braid(4, Checks.word(1, -2, 3, 3, -3), Checks.word(2));
        for (int place = 0; place < 4; place++) {
            int at = place;
            c.refused("swap(0, " + at + ")", Checks.STATE, near, () -> near.swap(0, at));
        }
        c.refused("swap of the only one", Checks.INDEX, near, () -> near.swap(1, 0));
        BraidWords empty = new BraidWords();
        c.refused("swap of none", Checks.INDEX, empty, () -> empty.swap(0, 0));
    }

    static void promise8About(Checks c) {
        BraidWords braid = Checks.braid(4, Checks.word(3, 1, 2, 1, 3), Checks.word(-3, -2, -3));
        c.due("about(0, 1)", braid.about(0, 1), 2);
        c.due("word 0", Checks.letters(braid, 0), Checks.word(3, 2, 1, 2, 3));
        c.due("about(1, 0)", braid.about(1, 0), -2);
        c.due("word 1", Checks.letters(braid, 1), Checks.word(-2, -3, -2));
        wrongWords(c, braid, "about", word -> braid.about(word, 0));
        wrongPlaces(c, braid, "about", 3, place -> braid.about(0, place));
        c.refused("about(0, 0)", Checks.STATE, braid, () -> braid.about(0, 0));
        c.refused("about(0, 2)", Checks.STATE, braid, () -> braid.about(0, 2));
        for (List<Integer> three : List.of(Checks.word(1, -2, 1), Checks.word(-1, 2, -1), Checks.word(1, 2, -1),
                Checks.word(-1, 2, 1), Checks.word(1, 3, 1), Checks.word(1, 1, 1), Checks.word(2, 1, 3),
                Checks.word(1, -1, 1), Checks.word(1, 2, 3), Checks.word(4, 2, 4))) {
            BraidWords wrong = Checks.braid(5, three, EMPTY);
            c.refused("about of " + three, Checks.STATE, wrong, () -> wrong.about(0, 0));
        }
        BraidWords two = Checks.braid(3, Checks.word(1, 2), EMPTY);
        c.refused("about of two", Checks.INDEX, two, () -> two.about(0, 0));
        c.refused("about of none", Checks.INDEX, two, () -> two.about(1, 0));
    }

    static void promise9Insert(Checks c) {
        BraidWords braid = Checks.braid(4, Checks.word(1, 2), Checks.word(3));
        c.due("insert(0, 0, -3)", braid.insert(0, 0, -3), 4);
        c.due("insert(0, 4, 1)", braid.insert(0, 4, 1), 6);
        c.due("insert(0, 3, 2)", braid.insert(0, 3, 2), 8);
        c.due("word 0", Checks.letters(braid, 0), Checks.word(-3, 3, 1, 2, -2, 2, 1, -1));
        c.due("word 1", Checks.letters(braid, 1), Checks.word(3));
        wrongWords(c, braid, "insert", word -> braid.insert(word, 0, 1));
        wrongPlaces(c, braid, "insert", 9, place -> braid.insert(0, place, 1));
        wrongPlaces(c, braid, "insert of 0", 9, place -> braid.insert(0, place, 0));
        wrongLetters(c, braid, "insert", letter -> braid.insert(1, 1, letter));
        BraidWords full = Checks.braid(3, Checks.repeated(28, 1), Checks.repeated(29, 2));
        c.refused("insert to 31", Checks.STATE, full, () -> full.insert(1, 0, 1));
        c.refused("insert of 3 to 31", Checks.ARGUMENT, full, () -> full.insert(1, 0, 3));
        c.refused("insert at 30 to 31", Checks.INDEX, full, () -> full.insert(1, 30, 1));
        c.due("insert to 30", full.insert(0, 28, 2), 30);
        c.refused("insert to 32", Checks.STATE, full, () -> full.insert(0, 0, 1));
        c.due("insert into none", new BraidWords().insert(1, 0, 2), 2);
    }

    static void promise10Cut(Checks c) {
        BraidWords braid = Checks.braid(5, Checks.word(4, -2, 3, 4, 3, 2, 1), Checks.word(1, 2, 3, 2, -1));
        c.due("cut(0)", braid.cut(0), 9);
        c.due("word 0", Checks.letters(braid, 0), Checks.word(4, 3, 2, -3, 4, 3, 2, -3, 1));
        c.due("word 1", Checks.letters(braid, 1), Checks.word(1, 2, 3, 2, -1));
        c.due("cut(1)", braid.cut(1), 7);
        c.due("word 1", Checks.letters(braid, 1), Checks.word(-2, 1, 2, 3, -2, 1, 2));
        wrongWords(c, braid, "cut", braid::cut);
        // Letters far below stay between the ends of a handle, and the signs turn with the first letter.
        BraidWords signs = Checks.braid(6, Checks.word(-3, 1, -4, 5, 3), Checks.word(3, -4, -3));
        c.due("cut(0)", signs.cut(0), 5);
        c.due("word 0", Checks.letters(signs, 0), Checks.word(1, 4, -3, -4, 5));
        c.due("cut(1)", signs.cut(1), 3);
        c.due("word 1", Checks.letters(signs, 1), Checks.word(-4, -3, 4));
        BraidWords none = Checks.braid(3, Checks.word(2, 1, -2), EMPTY);
        c.refused("cut without a handle", Checks.STATE, none, () -> none.cut(0));
        c.refused("cut of none", Checks.STATE, none, () -> none.cut(1));
        BraidWords pair = Checks.braid(3, Checks.word(-2, 2), Checks.word(1, -2, 2, -1));
        c.due("cut to none", pair.cut(0), 0);
        c.due("cut of the inner one", pair.cut(1), 2);
        c.due("word 1", Checks.letters(pair, 1), Checks.word(1, -1));
        List<Integer> grows = Checks.word(1, 2, 2, 2, -1);
        BraidWords to30 = Checks.braid(3, join(grows, Checks.repeated(21, -2)), EMPTY);
        c.due("cut to 30", to30.cut(0), 30);
        BraidWords to31 = Checks.braid(3, join(grows, Checks.repeated(22, -2)), EMPTY);
        c.refused("cut to 31", Checks.STATE, to31, () -> to31.cut(0));
        BraidWords stays30 = Checks.braid(3, EMPTY, join(Checks.word(1, 2, -1), Checks.repeated(27, 2)));
        c.due("cut of 30 to 30", stays30.cut(1), 30);
    }

    static void promise11Letter(Checks c) {
        BraidWords braid = Checks.braid(4, Checks.word(1, -3, 2), Checks.word(-1));
        c.due("letter(0, 0)", braid.letter(0, 0), 1);
        c.due("letter(0, 1)", braid.letter(0, 1), -3);
        c.due("letter(0, 2)", braid.letter(0, 2), 2);
        c.due("letter(1, 0)", braid.letter(1, 0), -1);
        wrongWords(c, braid, "letter", word -> braid.letter(word, 0));
        wrongPlaces(c, braid, "letter", 3, place -> braid.letter(0, place));
        wrongPlaces(c, braid, "letter of 1", 1, place -> braid.letter(1, place));
        braid.untwist(0);
        wrongPlaces(c, braid, "letter behind untwist", 2, place -> braid.letter(0, place));
        BraidWords full = Checks.braid(3, Checks.repeated(15, 1, -2), EMPTY);
        c.due("letter(0, 29)", full.letter(0, 29), -2);
        wrongPlaces(c, full, "letter of 30", 30, place -> full.letter(0, place));
    }

    static void promise12Count(Checks c) {
        BraidWords braid = Checks.braid(5, Checks.word(1, -3, -2, -4), Checks.word(-1, 4, 2));
        int[] due = {5, 4, 3, -2, 1};
        for (int what = 0; what < due.length; what++) {
            c.due("count(" + what + ")", braid.count(what), due[what]);
        }
        for (int wrong : new int[] {5, 6, -2}) {
            c.refused("count(" + wrong + ")", Checks.INDEX, braid, () -> braid.count(wrong));
        }
        for (int wrong : Checks.FAR_OUT) {
            c.refused("count(" + wrong + ")", Checks.INDEX, braid, () -> braid.count(wrong));
        }
        BraidWords full = Checks.braid(3, Checks.repeated(30, -1), EMPTY);
        c.due("count(3) of 30", full.count(3), -30);
        c.due("count(4) of none", full.count(4), 0);
    }

    static void promise13End(Checks c) {
        BraidWords braid = Checks.braid(4, Checks.word(1, -2, 3, 1), Checks.word(2));
        int[] due0 = {3, 1, 0, 2};
        int[] due1 = {0, 2, 1, 3};
        for (int rope = 0; rope < 4; rope++) {
            c.due("end(0, " + rope + ")", braid.end(0, rope), due0[rope]);
            c.due("end(1, " + rope + ")", braid.end(1, rope), due1[rope]);
        }
        wrongWords(c, braid, "end", word -> braid.end(word, 0));
        wrongPlaces(c, braid, "end", 4, rope -> braid.end(0, rope));
        BraidWords empty = Checks.braid(6, EMPTY, EMPTY);
        for (int rope = 0; rope < 6; rope++) {
            c.due("end of none", empty.end(1, rope), rope);
        }
        wrongPlaces(c, empty, "end of none", 6, rope -> empty.end(1, rope));
    }

    static void promise14Crosses(Checks c) {
        // Behind 1 the ropes hang 1 0 2 3, behind -2 they hang 1 2 0 3, behind 1 then 2 1 0 3.
        BraidWords braid = Checks.braid(4, Checks.word(1, -2, 1, 1), Checks.word(1, 1, 1, -3));
        int[][] due = {{0, 1, -1}, {1, 0, 2}, {-1, 2, 0}};
        for (int a = 0; a < 3; a++) {
            for (int b = 0; b < 3; b++) {
                if (a != b) {
                    c.due("crosses(0, " + a + ", " + b + ")", braid.crosses(0, a, b), due[a][b]);
                }
            }
        }
        c.due("crosses(0, 0, 3)", braid.crosses(0, 0, 3), 0);
        c.due("crosses(1, 1, 0)", braid.crosses(1, 1, 0), 3);
        c.due("crosses(1, 3, 2)", braid.crosses(1, 3, 2), -1);
        wrongWords(c, braid, "crosses", word -> braid.crosses(word, 0, 1));
        wrongWords(c, braid, "crosses with itself", word -> braid.crosses(word, 1, 1));
        wrongPlaces(c, braid, "crosses a", 4, rope -> braid.crosses(0, rope, 1));
        wrongPlaces(c, braid, "crosses b", 4, rope -> braid.crosses(0, 1, rope));
        wrongPlaces(c, braid, "crosses of both", 4, rope -> braid.crosses(0, rope, rope));
        for (int rope = 0; rope < 4; rope++) {
            int same = rope;
            c.refused("crosses with itself", Checks.ARGUMENT, braid, () -> braid.crosses(1, same, same));
        }
    }

    static void promise15Handle(Checks c) {
        dueHandle(c, Checks.word(1, -1), 0, 1, -2);
        dueHandle(c, Checks.word(2, -2), 0, 1, -2);
        dueHandle(c, Checks.word(1, 2, -1), 0, 2, 0);
        dueHandle(c, Checks.word(-1, 2, 2, 1), 0, 3, 2);
        dueHandle(c, Checks.word(-1, 3, 2, 4, 2, 5, 1), 0, 6, 2);
        // The one that ends first, not the one that begins first.
        dueHandle(c, Checks.word(1, 2, 3, -2, -1), 1, 3, 0);
        dueHandle(c, Checks.word(3, 1, 2, -1, 4, -3), 1, 3, 0);
        // Heights two and more below may stand between, the height one below may not.
        dueHandle(c, Checks.word(3, 1, 4, 1, -3), 0, 4, 0);
        dueHandle(c, Checks.word(5, -1, 2, 3, -5), 0, 4, -2);
        dueHandle(c, Checks.word(3, 2, -3), -1, -1, 0);
        dueHandle(c, Checks.word(4, -3, -4), -1, -1, 0);
        // The nearest of several that could begin it.
        dueHandle(c, Checks.word(2, 2, -2), 1, 2, -2);
        dueHandle(c, Checks.word(1, 1, 3, 2, -1), 1, 4, 0);
        dueHandle(c, Checks.word(1, 2, 3, 4, 5), -1, -1, 0);
        dueHandle(c, Checks.word(1, 1, 1), -1, -1, 0);
        dueHandle(c, EMPTY, -1, -1, 0);
        BraidWords braid = Checks.braid(3, Checks.word(1, -1), Checks.word(2));
        wrongWords(c, braid, "handle", word -> braid.handle(word, 0));
        wrongPlaces(c, braid, "handle", 3, what -> braid.handle(0, what));
        wrongPlaces(c, braid, "handle without one", 3, what -> braid.handle(1, what));
    }

    static void promise16Plain(Checks c) {
        duePlain(c, EMPTY, 0, 0, 0, 0);
        duePlain(c, Checks.word(1), 1, 0, 1, 1);
        duePlain(c, Checks.word(-4, 5, -3), 3, 0, -1, 3);
        duePlain(c, Checks.word(2, -2), 0, 1, 0, 0);
        duePlain(c, Checks.word(1, 2, -1), 3, 1, 1, 1);
        duePlain(c, Checks.word(1, -2, -1), 3, 1, -1, 1);
        duePlain(c, Checks.word(5, 3, -3, -5, -4), 1, 2, -1, 4);
        // Behind the cuts: 1 2 -2 -1 2 -2, then 1 -1 2 -2, then 2 -2, then none.
        duePlain(c, Checks.word(1, 2, 1, -2, -1, -2), 0, 4, 0, 0);
        BraidWords braid = Checks.braid(3, Checks.word(1, 2, -1), Checks.word(2));
        wrongWords(c, braid, "plain", word -> braid.plain(word, 0));
        wrongPlaces(c, braid, "plain", 4, what -> braid.plain(0, what));
    }

    static void promise17Same(Checks c) {
        dueSame(c, 3, EMPTY, EMPTY, 1);
        dueSame(c, 3, Checks.word(1, -1), EMPTY, 1);
        dueSame(c, 3, EMPTY, Checks.word(2, 1, -1, -2), 1);
        dueSame(c, 3, Checks.word(1, 2, 1), Checks.word(2, 1, 2), 1);
        dueSame(c, 4, Checks.word(1, 3), Checks.word(3, 1), 1);
        dueSame(c, 3, Checks.word(1, 2), Checks.word(2, 1), 0);
        dueSame(c, 3, Checks.word(1), Checks.word(-1), 0);
        dueSame(c, 3, Checks.word(1), Checks.word(1, 1), 0);
        dueSame(c, 3, Checks.word(1), EMPTY, 0);
        dueSame(c, 6, Checks.repeated(30, 5), Checks.repeated(30, 5), 1);
    }

    static void promise18Ahead(Checks c) {
        dueAhead(c, 3, EMPTY, EMPTY, 0);
        dueAhead(c, 3, Checks.word(1, 2, 1), Checks.word(2, 1, 2), 0);
        dueAhead(c, 3, EMPTY, Checks.word(1), 1);
        dueAhead(c, 3, Checks.word(1), EMPTY, -1);
        dueAhead(c, 3, Checks.word(-2), Checks.word(2), 1);
        dueAhead(c, 3, Checks.word(2), Checks.word(1), 1);
        dueAhead(c, 3, Checks.word(1), Checks.word(2), -1);
        dueAhead(c, 4, Checks.word(3, -1), Checks.word(-1), -1);
        dueAhead(c, 3, Checks.repeated(30, 2), Checks.repeated(30, -2), -1);
    }

    static void promise19Advise(Checks c) {
        dueAdvise(c, 3, EMPTY, 0);
        dueAdvise(c, 3, Checks.word(1), -1);
        dueAdvise(c, 3, Checks.word(-2), 2);
        dueAdvise(c, 3, Checks.word(1, 2), -2);
        dueAdvise(c, 3, Checks.word(1, -1), 0);
        // Several with as few: the least height, whatever stands last.
        dueAdvise(c, 4, Checks.word(1, 3), -1);
        dueAdvise(c, 4, Checks.word(-3, 1), -1);
        dueAdvise(c, 6, Checks.word(-5, -1, 3), 1);
        // 1 makes it shorter, 3 makes it shorter still.
        dueAdvise(c, 5, Checks.word(-3, -4, -3, -1, 4), 3);
        dueAdvise(c, 6, Checks.word(3, 4, 3, 1, -4), -3);
        dueAdvise(c, 3, Checks.repeated(30, 2), -2);
        dueAdvise(c, 3, Checks.repeated(15, 1, -2), 2);
        BraidWords braid = Checks.braid(3, Checks.word(1), Checks.word(2));
        wrongWords(c, braid, "advise", braid::advise);
        c.due("advise(0)", braid.advise(0), -1);
        c.due("advise(1)", braid.advise(1), -2);
        c.due("state", Checks.state(braid), List.of(3, 1, 1, 1, 2));
    }

    static void promise20Mean(Checks c) {
        c.due("mean of none", new BraidWords().mean(), 0.0);
        c.due("mean", Checks.braid(3, Checks.word(-2), EMPTY).mean(), 2.0);
        c.due("mean", Checks.braid(3, EMPTY, Checks.word(-1)).mean(), 1.0);
        c.due("mean", Checks.braid(6, Checks.word(1, -5), Checks.word(4, 4, 3, -2)).mean(), 19.0 / 6.0);
        c.due("mean", Checks.braid(4, Checks.word(1, 1), Checks.word(-3)).mean(), 5.0 / 3.0);
        c.due("mean of 60", Checks.braid(6, Checks.repeated(30, 5), Checks.repeated(30, -4)).mean(), 4.5);
    }

    static void promise21Digest(Checks c) {
        // Told by hand: counts, for each word its letters, ends, handle and plain, same and ahead.
        dueDigest(c, new BraidWords(),
                3, 0, 0, 0, 0, 0, 1, 2, -1, -1, 0, 0, 0, 0, 0, 0, 1, 2, -1, -1, 0, 0, 0, 0, 0, 1, 0);
        dueDigest(c, Checks.braid(4, Checks.word(1, 3, -1), Checks.word(-3)),
                4, 3, 1, 1, -1,
                1, 3, -1, 0, 1, 3, 2, 0, 2, -2, 1, 1, 1, 3,
                -3, 0, 1, 3, 2, -1, -1, 0, 1, 0, -1, 3,
                0, -1);
        c.due("digest of EdgeWords", Checks.braid(6, EdgeWords.CUTS_101.get(3), EdgeWords.CUTS_100.get(3)).digest(),
                Checks.model(6, EdgeWords.CUTS_101.get(3), EdgeWords.CUTS_100.get(3)).digest());
        BraidWords braid = Checks.braid(3, Checks.word(1, 2, -1), Checks.word(2));
        List<Integer> before = Checks.state(braid);
        long digest = braid.digest();
        c.due("digest again", braid.digest(), digest);
        c.due("the state behind digest", Checks.state(braid), before);
    }

    // ---- what the tests above share

    interface CallOfOne {
        int answer(int argument);
    }

    private static List<Integer> join(List<Integer> one, List<Integer> other) {
        return BraidModel.oneBehindTheOther(one, other);
    }

    private static void refusedAll(Checks c, Class<? extends RuntimeException> due, BraidWords braid, String name,
            int[] wrongs, CallOfOne call) {
        for (int wrong : wrongs) {
            c.refused(name + " with " + wrong, due, braid, () -> call.answer(wrong));
        }
    }

    private static void wrongWords(Checks c, BraidWords braid, String name, CallOfOne call) {
        refusedAll(c, Checks.INDEX, braid, name, new int[] {2, 3, -2}, call);
        refusedAll(c, Checks.INDEX, braid, name, Checks.FAR_OUT, call);
    }

    private static void wrongPlaces(Checks c, BraidWords braid, String name, int places, CallOfOne call) {
        refusedAll(c, Checks.INDEX, braid, name, new int[] {places, places + 1, 99, 100, 101, -2}, call);
        refusedAll(c, Checks.INDEX, braid, name, Checks.FAR_OUT, call);
    }

    private static void wrongLetters(Checks c, BraidWords braid, String name, CallOfOne call) {
        int ropes = braid.count(0);
        int[] wrongs = {0, ropes, -ropes, ropes + 1, Integer.MIN_VALUE, Integer.MIN_VALUE + 1, Integer.MAX_VALUE};
        refusedAll(c, Checks.ARGUMENT, braid, name, wrongs, call);
    }

    private static void dueHandle(Checks c, List<Integer> word, int first, int last, int more) {
        int[] due = {first, last, more};
        BraidWords braid0 = Checks.braid(6, word, EMPTY);
        BraidWords braid1 = Checks.braid(6, EMPTY, word);
        for (int what = 0; what <= 2; what++) {
            c.due("handle(0, " + what + ") of " + word, braid0.handle(0, what), due[what]);
            c.due("handle(1, " + what + ") of " + word, braid1.handle(1, what), due[what]);
        }
    }

    private static void duePlain(Checks c, List<Integer> word, int letters, int cuts, int sign, int height) {
        int[] due = {letters, cuts, sign, height};
        BraidWords braid0 = Checks.braid(6, word, EMPTY);
        BraidWords braid1 = Checks.braid(6, EMPTY, word);
        for (int what = 0; what <= 3; what++) {
            c.due("plain(0, " + what + ") of " + word, braid0.plain(0, what), due[what]);
            c.due("plain(1, " + what + ") of " + word, braid1.plain(1, what), due[what]);
        }
        c.due("word 0 behind plain", Checks.letters(braid0, 0), word);
        c.due("word 1 behind plain", Checks.letters(braid1, 1), word);
    }

    private static void dueSame(Checks c, int ropes, List<Integer> word0, List<Integer> word1, int due) {
        BraidWords braid = Checks.braid(ropes, word0, word1);
        List<Integer> before = Checks.state(braid);
        c.due("same() of " + word0 + " and " + word1, braid.same(), due);
        c.due("the state behind same()", Checks.state(braid), before);
        c.due("same() the other way", Checks.braid(ropes, word1, word0).same(), due);
    }

    private static void dueAhead(Checks c, int ropes, List<Integer> word0, List<Integer> word1, int due) {
        BraidWords braid = Checks.braid(ropes, word0, word1);
        List<Integer> before = Checks.state(braid);
        c.due("ahead() of " + word0 + " and " + word1, braid.ahead(), due);
        c.due("the state behind ahead()", Checks.state(braid), before);
        c.due("ahead() the other way", Checks.braid(ropes, word1, word0).ahead(), -due);
    }

    private static void dueAdvise(Checks c, int ropes, List<Integer> word, int due) {
        BraidWords braid = Checks.braid(ropes, word, word);
        List<Integer> before = Checks.state(braid);
        c.due("advise(0) of " + word, braid.advise(0), due);
        c.due("advise(1) of " + word, braid.advise(1), due);
        c.due("the state behind advise", Checks.state(braid), before);
    }

    private static void dueDigest(Checks c, BraidWords braid, int... told) {
        long d = 1511;
        for (int x : told) {
            d = d * 31 + x;
        }
        c.due("digest()", braid.digest(), d);
    }
}
