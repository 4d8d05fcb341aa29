import java.util.List;

/** Runs of as many calls as an object is good for, each answer held against that of the slow model. */
final class LongRunTests {
    private static final int RUNS = 200;
    private static final int CALLS = 512;
    /** Three calls tell the counts, and one tells each of 60 letters. */
    private static final int CALLS_OF_THE_STATE = 63;

    private final Checks c;
    private final BraidWords braid = new BraidWords();
    private final BraidModel model = new BraidModel();
    private long seed;
    private int calls;

    private LongRunTests(Checks c, long seed) {
        this.c = c;
        this.seed = seed;
    }

    static void addTo(Tests tests) {
        tests.add("long runs answer as the model does", LongRunTests::everyAnswerIsTheModels);
    }

    static void everyAnswerIsTheModels(Checks c) {
        for (int run = 0; run < RUNS && c.wrong.isEmpty(); run++) {
            new LongRunTests(c, run * 7919L + 1).run();
        }
    }

    private void run() {
        stepsTo(CALLS - CALLS_OF_THE_STATE);
        List<Integer> due = new Given(model.ropes, model.words.get(0), model.words.get(1)).state();
        c.due("what stands behind call " + calls, Checks.state(braid), due);
        calls += due.size();
        stepsTo(CALLS);
    }

    private void stepsTo(int end) {
        while (calls < end && c.wrong.isEmpty()) {
            step();
        }
    }

    /** A number of 0 to many - 1; the same in each run of the tests. */
    private int pick(int many) {
        seed = seed * 6364136223846793005L + 1442695040888963407L;
        return (int) ((seed >>> 33) % many);
    }

    private int ropeNumber() {
        return pick(12) == 0 ? pick(9) - 2 : pick(model.ropes);
    }

    private int wordNumber() {
        return pick(40) == 0 ? pick(5) - 2 : pick(2);
    }

    private int letter() {
        if (pick(30) == 0) {
            return pick(15) - 7;
        }
        return (1 + pick(model.ropes - 1)) * (pick(2) == 0 ? 1 : -1);
    }

    private int place(int word) {
        int many = word == 0 || word == 1 ? model.words.get(word).size() : 0;
        return pick(many + 3) - 1;
    }

    private void both(String what, Checks.Call ofModel, Checks.Call ofBraid) {
        String name = "call " + calls + ", " + what + ", with " + model.ropes + " ropes and " + model.words;
        c.due(name, Checks.outcome(ofBraid), Checks.outcome(ofModel));
        calls++;
    }

    private void step() {
        int w = wordNumber();
        int p = place(w);
        int l = letter();
        int what = pick(6) - 1;
        switch (pick(32)) {
            case 0 -> setRopes();
            case 1, 2, 3, 4, 5, 6, 7, 8 -> both("twist", () -> model.twist(w, l), () -> braid.twist(w, l));
            case 9, 10 -> both("untwist", () -> model.untwist(w), () -> braid.untwist(w));
            case 11 -> both("turn", () -> model.turn(w), () -> braid.turn(w));
            case 12 -> both("join", () -> model.join(w), () -> braid.join(w));
            case 13, 14 -> both("swap", () -> model.swap(w, p), () -> braid.swap(w, p));
            case 15, 16 -> about(w, p);
            case 17 -> both("insert", () -> model.insert(w, p, l), () -> braid.insert(w, p, l));
            case 18 -> both("cut", () -> model.cut(w), () -> braid.cut(w));
            case 19 -> both("letter", () -> model.letter(w, p), () -> braid.letter(w, p));
            case 20 -> both("count", () -> model.count(what), () -> braid.count(what));
            case 21, 22 -> end(w);
            case 23, 24 -> crosses(w);
            case 25 -> both("handle", () -> model.handle(w, what), () -> braid.handle(w, what));
            case 26 -> both("plain", () -> model.plain(w, what), () -> braid.plain(w, what));
            case 27 -> both("same", () -> model.same(), () -> braid.same());
            case 28 -> both("ahead", () -> model.ahead(), () -> braid.ahead());
            case 29 -> both("advise", () -> model.advise(w), () -> braid.advise(w));
            case 30 -> both("mean", () -> model.mean(), () -> braid.mean());
            default -> both("digest", () -> model.digest(), () -> braid.digest());
        }
    }

    /** Mostly one that is refused, so that words grow long. */
    private void setRopes() {
        int ropes = pick(4) == 0 ? 3 + pick(4) : 1 + 6 * pick(2) + pick(2);
        both("setRopes", () -> model.setRopes(ropes), () -> braid.setRopes(ropes));
    }

    /** Where three letters can be turned about, if there are such, as they are rare. */
    private void about(int w, int otherwise) {
        int there = w == 0 || w == 1 ? placeOfThree(model.words.get(w)) : otherwise;
        int p = there < 0 || pick(4) == 0 ? otherwise : there;
        both("about", () -> model.about(w, p), () -> braid.about(w, p));
    }

    private static int placeOfThree(List<Integer> word) {
        for (int place = 0; place + 2 < word.size(); place++) {
            int x = word.get(place);
            int y = word.get(place + 1);
            if (word.get(place + 2) == x && Math.abs(x - y) == 1) {
                return place;
            }
        }
        return -1;
    }

    private void end(int w) {
        int rope = ropeNumber();
        both("end", () -> model.end(w, rope), () -> braid.end(w, rope));
    }

    private void crosses(int w) {
        int a = ropeNumber();
        int b = ropeNumber();
        both("crosses", () -> model.crosses(w, a, b), () -> braid.crosses(w, a, b));
    }
}
