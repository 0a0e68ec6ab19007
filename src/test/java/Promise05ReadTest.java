/** The sentences of promise 5: read. */
public final class Promise05ReadTest {
    private static final String STATE = "IllegalStateException if that word is in no object.";

    public static void main(String[] args) {
        Section s = Section.ofPromise(5);
        s.test("The word at an address.", "every word of the largest object, also those that were not asked for",
                Promise05ReadTest::everyWord);
        s.test("The word at an address.", "kept over a collection, also in a silent object",
                Promise05ReadTest::keptOverACollection);
        s.test("IndexOutOfBoundsException if it is no address of the heap;", "4095, 4608, and numbers that wrap around",
                Promise05ReadTest::noAddress);
        s.test(STATE, "a FREE block, the first and the last word", Promise05ReadTest::freeBlock);
        s.test(STATE, "an EMPTY slot, beside an object", Promise05ReadTest::emptySlot);
        s.test(STATE, "an object that was given up", Promise05ReadTest::givenUp);
        s.end();
        Check.end();
    }

    private static void everyWord() {
        GuessingHeap x = new GuessingHeap();
        int place = x.allocate(97, false);
        for (int j = 0; j < 128; j++) {
            x.write(place + j, 1000 + j);
        }
        for (int j = 0; j < 128; j++) {
            Check.same("word " + j, x.read(place + j), 1000 + j);
        }
        Check.same("word 5 once more", x.read(place + 5), 1005);
    }

    private static void keptOverACollection() {
        for (int n : Heaps.SIZES) {
            GuessingHeap x = new GuessingHeap();
            x.allocate(n, n % 3 == 2);
            x.write(4096, -1);
            x.write(4096 + n - 1, Integer.MIN_VALUE);
            x.root(0, 4097);
            x.collect();
            Check.same("first word, n " + n, x.read(4096), -1);
            Check.same("last word, n " + n, x.read(4096 + n - 1), Integer.MIN_VALUE);
        }
    }

    private static void noAddress() {
        GuessingHeap x = Heaps.full();
        for (int a : Heaps.NO_ADDRESSES) {
            Check.throwsKind("read(" + a + ")", () -> x.read(a), Check.INDEX);
        }
        Check.same("read(4096)", x.read(4096), 0);
        Check.same("read(4607)", x.read(4607), 0);
    }

    private static void freeBlock() {
        GuessingHeap x = new GuessingHeap();
        Check.throwsKind("read(4096)", () -> x.read(4096), Check.STATE);
        Check.throwsKind("read(4607)", () -> x.read(4607), Check.STATE);
        x.allocate(96, false);
        Check.throwsKind("the block behind a large one", () -> x.read(4096 + 96), Check.STATE);
    }

    private static void emptySlot() {
        for (int size : Heaps.SLOTS) {
            GuessingHeap x = new GuessingHeap();
            x.allocate(size, false);
            Check.throwsKind("the slot behind, of " + size, () -> x.read(4096 + size), Check.STATE);
            Check.throwsKind("the last word of the block, of " + size, () -> x.read(4127), Check.STATE);
        }
    }

    private static void givenUp() {
        for (int n : Heaps.SIZES) {
            GuessingHeap x = new GuessingHeap();
            x.allocate(n, false);
            x.allocate(n, false);
            x.root(0, 4096 + n);
            x.collect();
            Check.throwsKind("first word, n " + n, () -> x.read(4096), Check.STATE);
            Check.throwsKind("last word, n " + n, () -> x.read(4096 + n - 1), Check.STATE);
            Check.same("its neighbour's word, n " + n, x.read(4096 + n), 0);
        }
    }
}
