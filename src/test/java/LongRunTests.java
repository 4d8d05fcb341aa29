import java.util.List;

/** As many calls as an object is good for, each answer held against that of the slow model. */
final class LongRunTests {
    private static final int RUNS = 200;
    private static final int CALLS = 512;
    /** Three calls tell the counts, and one tells each of 60 letters. */
    private static final int CALLS_OF_THE_STATE = 63;

    private final Checks c;
    private final BraidWords braid = new BraidWords();
    private final BraidModel model = new BraidModel();
    private long seed;
    private int calls;

    private LongRunTests(Checks c, long seed) {
        this.c = c;
        this.seed = seed;
    }

    static void addTo(Tests tests) {
        tests.add("long runs answer as the model does", LongRunTests::everyAnswerIsTheModels);
        tests.add("what it is: An object is used for at most 512 calls: each call answers as its 512th one",
                LongRunTests::eachCallAnswersAsThe512th);
    }

    static void everyAnswerIsTheModels(Checks c) {
        for (int run = 0; run < RUNS && c.wrong.isEmpty(); run++) {
            new LongRunTests(c, run * 7919L + 1).run();
        }
    }

    interface OfModel {
        Object on(BraidModel model);
    }

    static void eachCallAnswersAsThe512th(Checks c) {
        last(c, "setRopes(4)", braid -> braid.setRopes(4), model -> model.setRopes(4));
        last(c, "twist(0, -5)", braid -> braid.twist(0, -5), model -> model.twist(0, -5));
        last(c, "untwist(1)", braid -> braid.untwist(1), model -> model.untwist(1));
        last(c, "turn(1)", braid -> braid.turn(1), model -> model.turn(1));
        last(c, "join(0)", braid -> braid.join(0), model -> model.join(0));
        last(c, "swap(0, 1)", braid -> braid.swap(0, 1), model -> model.swap(0, 1));
        last(c, "about(1, 1)", braid -> braid.about(1, 1), model -> model.about(1, 1));
        last(c, "insert(1, 3, 5)", braid -> braid.insert(1, 3, 5), model -> model.insert(1, 3, 5));
        last(c, "cut(0)", braid -> braid.cut(0), model -> model.cut(0));
        last(c, "letter(0, 2)", braid -> braid.letter(0, 2), model -> model.letter(0, 2));
        last(c, "count(3)", braid -> braid.count(3), model -> model.count(3));
        last(c, "end(0, 0)", braid -> braid.end(0, 0), model -> model.end(0, 0));
        last(c, "crosses(1, 0, 2)", braid -> braid.crosses(1, 0, 2), model -> model.crosses(1, 0, 2));
        last(c, "handle(0, 1)", braid -> braid.handle(0, 1), model -> model.handle(0, 1));
        last(c, "plain(0, 1)", braid -> braid.plain(0, 1), model -> model.plain(0, 1));
        last(c, "same()", BraidWords::same, BraidModel::same);
        last(c, "ahead()", BraidWords::ahead, BraidModel::ahead);
        last(c, "advise(1)", braid -> braid.advise(1), model -> model.advise(1));
        last(c, "mean()", BraidWords::mean, BraidModel::mean);
        last(c, "digest()", BraidWords::digest, BraidModel::digest);
        last(c, "letter(0, 9)", braid -> braid.letter(0, 9), model -> model.letter(0, 9));
    }

    /** The answer of an object's last call, behind others that change nothing. */
    private static void last(Checks c, String name, Given.Call ofBraid, OfModel ofModel) {
        Given given = new Given(6, Checks.word(1, 4, 2, -1, 3), Checks.word(-4, 1, 2, 1, 2, -5));
        BraidWords braid = given.braid();
        int made = 1 + given.word0().size() + given.word1().size();
        for (int call = made; call < CALLS - 1; call++) {
            braid.plain(call % 2, call % 4);
        }
        c.due(name, Checks.outcome(() -> ofBraid.on(braid)), Checks.outcome(() -> ofModel.on(given.model())));
    }

    private void run() {
        stepsTo(CALLS - CALLS_OF_THE_STATE);
        List<Integer> due = new Given(model.ropes, model.words.get(0), model.words.get(1)).state();
        c.due("what stands behind call " + calls, Checks.state(braid), due);
        calls += due.size();
        stepsTo(CALLS);
    }

    private void stepsTo(int end) {
        while (calls < end && c.wrong.isEmpty()) {
            step();
        }
    }

    /** A number of 0 to many - 1; the same in each run of the tests. */
    private int pick(int many) {
        seed = seed * 6364136223846793005L + 1442695040888963407L;
        return (int) ((seed >>> 33) % many);
    }

    private int ropeNumber() {
        return pick(12) == 0 ? pick(9) - 2 : pick(model.ropes);
    }

    private int wordNumber() {
        return pick(40) == 0 ? pick(5) - 2 : pick(2);
    }

    private int letter() {
        if (pick(30) == 0) {
            return pick(15) - 7;
        }
        return (1 + pick(model.ropes - 1)) * (pick(2) == 0 ? 1 : -1);
    }

    private int place(int word) {
        int many = word == 0 || word == 1 ? model.words.get(word).size() : 0;
        return pick(many + 3) - 1;
    }

    private void both(String what, Checks.Call ofModel, Checks.Call ofBraid) {
        String name = "call " + calls + ", " + what + ", with " + model.ropes + " ropes and " + model.words;
        c.due(name, Checks.outcome(ofBraid), Checks.outcome(ofModel));
        calls++;
    }

    private void step() {
        int w = wordNumber();
        int p = place(w);
        int l = letter();
        int what = pick(6) - 1;
        switch (pick(32)) {
            case 0 -> setRopes();
            case 1, 2, 3, 4, 5, 6, 7, 8 -> both("twist", () -> model.twist(w, l), () -> braid.twist(w, l));
            case 9, 10 -> both("untwist", () -> model.untwist(w), () -> braid.untwist(w));
            case 11 -> both("turn", () -> model.turn(w), () -> braid.turn(w));
            case 12 -> both("join", () -> model.join(w), () -> braid.join(w));
            case 13, 14 -> both("swap", () -> model.swap(w, p), () -> braid.swap(w, p));
            case 15, 16 -> about(w, p);
            case 17 -> both("insert", () -> model.insert(w, p, l), () -> braid.insert(w, p, l));
            case 18 -> both("cut", () -> model.cut(w), () -> braid.cut(w));
            case 19 -> both("letter", () -> model.letter(w, p), () -> braid.letter(w, p));
            case 20 -> both("count", () -> model.count(what), () -> braid.count(what));
            case 21, 22 -> end(w);
            case 23, 24 -> crosses(w);
            case 25 -> both("handle", () -> model.handle(w, what), () -> braid.handle(w, what));
            case 26 -> both("plain", () -> model.plain(w, what), () -> braid.plain(w, what));
            case 27 -> both("same", () -> model.same(), () -> braid.same());
            case 28 -> both("ahead", () -> model.ahead(), () -> braid.ahead());
            case 29 -> both("advise", () -> model.advise(w), () -> braid.advise(w));
            case 30 -> both("mean", () -> model.mean(), () -> braid.mean());
            default -> both("digest", () -> model.digest(), () -> braid.digest());
        }
    }

    /** Mostly one that is refused, so that words grow long. */
    private void setRopes() {
        int ropes = pick(4) == 0 ? 3 + pick(4) : 1 + 6 * pick(2) + pick(2);
        both("setRopes", () -> model.setRopes(ropes), () -> braid.setRopes(ropes));
    }

    /** Where three letters can be turned about, if there are such, as they are rare. */
    private void about(int w, int otherwise) {
        int there = w == 0 || w == 1 ? placeOfThree(model.words.get(w)) : otherwise;
        int p = there < 0 || pick(4) == 0 ? otherwise : there;
        both("about", () -> model.about(w, p), () -> braid.about(w, p));
    }

    private static int placeOfThree(List<Integer> word) {
        for (int place = 0; place + 2 < word.size(); place++) {
            int x = word.get(place);
            int y = word.get(place + 1);
            if (word.get(place + 2) == x && Math.abs(x - y) == 1) {
                return place;
            }
        }
        return -1;
    }

    private void end(int w) {
        int rope = ropeNumber();
        both("end", () -> model.end(w, rope), () -> braid.end(w, rope));
    }

    private void crosses(int w) {
        int a = ropeNumber();
        int b = ropeNumber();
        both("crosses", () -> model.crosses(w, a, b), () -> braid.crosses(w, a, b));
    }
}
