/** The sentences of promise 1: a new object. */
public final class Promise01NewObjectTest {
    private static final String FREE = "Free blocks alone.";

    public static void main(String[] args) {
        Section s = Section.ofPromise(1);
        s.test(FREE, "every block, from the first to the last", Promise01NewObjectTest::blocksAreFree);
        s.test(FREE, "no word is in an object", Promise01NewObjectTest::wordsAreInNoObject);
        s.test(FREE, "no object, no collection, roots of 0", Promise01NewObjectTest::nothingYet);
        s.test(FREE, "a collection finds nothing", Promise01NewObjectTest::nothingToCollect);
        s.test(FREE, "also of a second one, whatever befell the first", Promise01NewObjectTest::heapsAreApart);
        s.end();
        Check.end();
    }

    private static void blocksAreFree() {
        GuessingHeap x = new GuessingHeap();
        for (int b = 0; b < 16; b++) {
            Check.same("block(" + b + ")", x.block(b), 0);
            Check.same("empty(" + b + ")", x.empty(b), 0);
        }
    }

    private static void wordsAreInNoObject() {
        GuessingHeap x = new GuessingHeap();
        for (int a = 4096; a < 4608; a++) {
            Check.same("base(" + a + ")", x.base(a), GuessingHeap.NONE);
        }
        GuessingHeap y = new GuessingHeap();
        for (int a = 4096; a < 4608; a++) {
            int address = a;
            Check.throwsKind("read(" + a + ")", () -> y.read(address), Check.STATE);
        }
    }

    private static void nothingYet() {
        GuessingHeap x = new GuessingHeap();
        for (int r = 0; r < 8; r++) {
            Check.same("rooted(" + r + ")", x.rooted(r), 0);
        }
        Check.counts("new", x, 0, 0);
    }

    private static void nothingToCollect() {
        GuessingHeap x = new GuessingHeap();
        Check.same("collect()", x.collect(), 0);
        Check.blocks("collected", x);
        Check.counts("collected", x, 0, 1);
    }

    private static void heapsAreApart() {
        GuessingHeap x = new GuessingHeap();
        x.allocate(5, true);
        x.root(3, 4096);
        x.root(4, 4607);
        x.write(4096, 9);
        x.collect();
        GuessingHeap y = new GuessingHeap();
        Check.blocks("the second one", y);
        Check.counts("the second one", y, 0, 0);
        Check.same("the second one: rooted(3)", y.rooted(3), 0);
        y.allocate(5, false);
        Check.same("the second one: its word", y.read(4096), 0);
        Check.same("the second one: silent(4096)", y.silent(4096), false);
        Check.same("the first one: silent(4096)", x.silent(4096), true);
        Check.same("the first one: its word", x.read(4096), 9);
    }
}
