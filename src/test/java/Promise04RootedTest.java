/** The sentences of promise 4: rooted. */
public final class Promise04RootedTest {
    private static final String WORD = "The word of root r.";

    public static void main(String[] args) {
        Section s = Section.ofPromise(4);
        s.test(WORD, "0 as long as it was not set", Promise04RootedTest::notSet);
        s.test(WORD, "the same behind collections", Promise04RootedTest::behindCollections);
        s.test("IndexOutOfBoundsException if there is none.", "-1, 8, and far from both",
                Promise04RootedTest::noSuchRoot);
        s.end();
        Check.end();
    }

    private static void notSet() {
        GuessingHeap x = new GuessingHeap();
        for (int r = 0; r < 8; r++) {
            Check.same("rooted(" + r + ")", x.rooted(r), 0);
        }
    }

    private static void behindCollections() {
        GuessingHeap x = Heaps.full();
        x.root(0, 4100);
        x.root(6, 5000);
        x.root(7, 4300);
        x.collect();
        x.root(7, 4500);
        x.collect();
        int[] due = {4100, 0, 0, 0, 0, 0, 5000, 4500};
        for (int r = 0; r < 8; r++) {
            Check.same("rooted(" + r + ")", x.rooted(r), due[r]);
        }
    }

    private static void noSuchRoot() {
        GuessingHeap x = new GuessingHeap();
        for (int r : Heaps.NO_ROOTS) {
            Check.throwsKind("rooted(" + r + ")", () -> x.rooted(r), Check.INDEX);
        }
    }
}
