/** The sentences of promise 3: root. */
public final class Promise03RootTest {
    private static final String BECOMES = "Root r becomes a word.";

    public static void main(String[] args) {
        Section s = Section.ofPromise(3);
        s.test(BECOMES, "each root, the least and the greatest word", Promise03RootTest::rootsBecomeWords);
        s.test(BECOMES, "anew, and the others stay", Promise03RootTest::anew);
        s.test(BECOMES, "a word that points nowhere, or into a FREE block, is none that throws",
                Promise03RootTest::anyWordIsTaken);
        s.test("IndexOutOfBoundsException if there is no root r.", "-1, 8, and far from both",
                Promise03RootTest::noSuchRoot);
        s.end();
        Check.end();
    }

    private static void rootsBecomeWords() {
        GuessingHeap x = new GuessingHeap();
        int[] words = {1, -1, Integer.MAX_VALUE, Integer.MIN_VALUE, 4096, 4607, 4608, 0};
        for (int r = 0; r < 8; r++) {
            x.root(r, words[r]);
        }
        for (int r = 0; r < 8; r++) {
            Check.same("rooted(" + r + ")", x.rooted(r), words[r]);
        }
    }

    private static void anew() {
        for (int r = 0; r < 8; r++) {
            GuessingHeap x = new GuessingHeap();
            x.root(r, 4096);
            x.root(r, -5);
            for (int other = 0; other < 8; other++) {
                Check.same("root(" + r + "): rooted(" + other + ")", x.rooted(other), other == r ? -5 : 0);
            }
        }
    }

    private static void anyWordIsTaken() {
        GuessingHeap x = new GuessingHeap();
        for (int w : Heaps.NO_ADDRESSES) {
            Check.throwsKind("root(0, " + w + ")", () -> x.root(0, w), Check.NOTHING);
            Check.same("rooted(0)", x.rooted(0), w);
        }
        Check.throwsKind("root(0, 4600)", () -> x.root(0, 4600), Check.NOTHING);
        Check.blocks("without a collection", x);
        Check.counts("without a collection", x, 0, 0);
    }

    private static void noSuchRoot() {
        for (int r : Heaps.NO_ROOTS) {
            GuessingHeap x = new GuessingHeap();
            Check.throwsKind("root(" + r + ", 4096)", () -> x.root(r, 4096), Check.INDEX);
            for (int i = 0; i < 8; i++) {
                Check.same("behind it: rooted(" + i + ")", x.rooted(i), 0);
            }
        }
    }
}
