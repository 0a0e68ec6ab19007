/** Promises 3 and 4: root and rooted. */
public final class RootTest {
    public static void main(String[] args) {
        rootsHoldWords();
        noSuchRoot();
        everyRootKeeps();
        Check.end();
    }

    private static void rootsHoldWords() {
        GuessingHeap x = new GuessingHeap();
        int[] words = {1, -1, Integer.MAX_VALUE, Integer.MIN_VALUE, 4096, 4607, 4608, 0};
        for (int r = 0; r < 8; r++) {
            x.root(r, words[r]);
        }
        for (int r = 0; r < 8; r++) {
            Check.same("rooted(" + r + ")", x.rooted(r), words[r]);
        }
        x.root(2, 5);
        Check.same("rooted(2) anew", x.rooted(2), 5);
        Check.same("rooted(1) as before", x.rooted(1), -1);
        Check.same("root() alone makes no block doubtful", x.block(0), 0);
        x.collect();
        Check.same("rooted(4) behind collect()", x.rooted(4), 4096);
    }

    private static void noSuchRoot() {
        int[] wrong = {-1, 8, 9, Integer.MAX_VALUE, Integer.MIN_VALUE};
        for (int r : wrong) {
            GuessingHeap x = new GuessingHeap();
            Check.throwsKind("root(" + r + ", 4096)", () -> x.root(r, 4096), Check.INDEX);
            Check.throwsKind("rooted(" + r + ")", () -> x.rooted(r), Check.INDEX);
            for (int i = 0; i < 8; i++) {
                Check.same("rooted(" + i + ") behind root(" + r + ", 4096)", x.rooted(i), 0);
            }
        }
    }

    private static void everyRootKeeps() {
        for (int r = 0; r < 8; r++) {
            GuessingHeap x = new GuessingHeap();
            x.allocate(2, false);
            x.root(r, 4097);
            Check.same("root " + r + " set: collect()", x.collect(), 0);
            x.root(r, 0);
            Check.same("root " + r + " not set: collect()", x.collect(), 1);
        }
    }
}
