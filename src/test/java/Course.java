import java.util.ArrayList;
import java.util.List;

/** What cutting would come to if nothing were ever lost. */
record Course(List<Integer> plain, int cuts, int mostLetters) {
    static Course of(List<Integer> word) {
        List<Integer> now = new ArrayList<>(word);
        int cuts = 0;
        int most = 0;
        for (BraidModel.Handle handle = BraidModel.firstHandle(now); handle != null; handle = BraidModel.firstHandle(now)) {
            now = BraidModel.behindCutting(now, handle);
            cuts++;
            most = Math.max(most, now.size());
        }
        return new Course(now, cuts, most);
    }

    boolean isLost() {
        return cuts > 100 || mostLetters > 100;
    }

    int sign() {
        return new BraidModel.Plain(plain, cuts).sign();
    }
}
