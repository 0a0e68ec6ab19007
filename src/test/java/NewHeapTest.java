/** Promise 1: a new object has free blocks alone. */
public final class NewHeapTest {
    public static void main(String[] args) {
        blocksAreFree();
        wordsAreInNoObject();
        rootsAndCounts();
        heapsAreApart();
        Check.end();
    }

    private static void blocksAreFree() {
        GuessingHeap x = new GuessingHeap();
        for (int b = 0; b < 16; b++) {
            Check.same("new: block(" + b + ")", x.block(b), 0);
            Check.same("new: empty(" + b + ")", x.empty(b), 0);
        }
    }

    private static void wordsAreInNoObject() {
        GuessingHeap x = new GuessingHeap();
        for (int a = 4096; a < 4608; a++) {
            Check.same("new: base(" + a + ")", x.base(a), GuessingHeap.NONE);
        }
        GuessingHeap y = new GuessingHeap();
        Check.throwsKind("new: read(4096)", () -> y.read(4096), Check.STATE);
        Check.throwsKind("new: read(4607)", () -> y.read(4607), Check.STATE);
        Check.same("new: size(4096)", y.size(4096), 0);
        Check.same("new: silent(4096)", y.silent(4096), false);
    }

    private static void rootsAndCounts() {
        GuessingHeap x = new GuessingHeap();
        for (int r = 0; r < 8; r++) {
            Check.same("new: rooted(" + r + ")", x.rooted(r), 0);
        }
        Check.same("new: objects()", x.objects(), 0);
        Check.same("new: collections()", x.collections(), 0);
        Check.same("new: collect()", x.collect(), 0);
        Check.same("new, collected: block(0)", x.block(0), 0);
    }

    private static void heapsAreApart() {
        GuessingHeap x = new GuessingHeap();
        x.root(3, 4100);
        x.allocate(5, true);
        x.collect();
        GuessingHeap y = new GuessingHeap();
        Check.same("another heap: rooted(3)", y.rooted(3), 0);
        Check.same("another heap: block(0)", y.block(0), 0);
        Check.same("another heap: collections()", y.collections(), 0);
        Check.same("another heap: objects()", y.objects(), 0);
    }
}
