/** The sentences of promise 12: empty. */
public final class Promise12EmptyTest {
    private static final String HOW_MANY = "How many slots of block b are EMPTY;";

    public static void main(String[] args) {
        Section s = Section.ofPromise(12);
        s.test(HOW_MANY, "from all but one down to 0, when it is full", Promise12EmptyTest::untilFull);
        s.test(HOW_MANY, "behind collections, up to all but one", Promise12EmptyTest::behindCollections);
        s.test(HOW_MANY, "of block 15", Promise12EmptyTest::lastBlock);
        s.test("0 if it is not SPLIT,", "FREE, doubtful, LARGE, and no longer SPLIT", Promise12EmptyTest::notSplit);
        s.test("or there is none.", "-1, 16, and numbers that wrap around", Promise12EmptyTest::noSuchBlock);
        s.end();
        Check.end();
    }

    private static void untilFull() {
        for (int size : Heaps.SLOTS) {
            GuessingHeap x = new GuessingHeap();
            for (int i = 1; i <= 32 / size; i++) {
                x.allocate(size, false);
                Check.same("slots of " + size + ": empty(0) behind " + i, x.empty(0), 32 / size - i);
            }
            Check.same("slots of " + size + ": empty(1)", x.empty(1), 0);
            x.allocate(size, false);
            Check.same("slots of " + size + ": empty(0), full", x.empty(0), 0);
            Check.same("slots of " + size + ": empty(1), one taken", x.empty(1), 32 / size - 1);
        }
    }

    private static void behindCollections() {
        for (int size : Heaps.SLOTS) {
            GuessingHeap x = new GuessingHeap();
            for (int i = 0; i < 32 / size; i++) {
                x.allocate(size, false);
            }
            x.root(0, 4096);
            x.root(1, 4127);
            x.collect();
            Check.same("first and last of " + size + " kept", x.empty(0), 32 / size - 2);
            x.root(0, 0);
            x.collect();
            Check.same("the last of " + size + " kept", x.empty(0), 32 / size - 1);
        }
    }

    private static void lastBlock() {
        GuessingHeap x = Heaps.ofOneBlockEach();
        x.root(0, 4096);
        x.collect();
        for (int i = 0; i < 3; i++) {
            x.allocate(128, false);
        }
        x.allocate(64, false);
        Check.same("block 15 alone is FREE", x.allocate(4, false), Heaps.at(15));
        Check.same("empty(15)", x.empty(15), 7);
    }

    private static void notSplit() {
        GuessingHeap x = new GuessingHeap();
        x.allocate(40, false);
        x.allocate(8, false);
        x.root(0, 4096);
        x.root(1, Heaps.at(9));
        x.collect();
        Check.blocks("behind collect()", x, 32, 33, 0, 0, 0, 0, 0, 0, 0, 64);
        for (int b = 0; b < 16; b++) {
            Check.same("empty(" + b + ")", x.empty(b), 0);
        }
    }

    private static void noSuchBlock() {
        // Every block has an EMPTY slot, so that none of them could answer 0 for another.
        GuessingHeap x = Heaps.halfEmpty();
        for (int b : Heaps.NO_BLOCKS) {
            Check.same("empty(" + b + ")", x.empty(b), 0);
        }
        Check.same("empty(0)", x.empty(0), 1);
        Check.same("empty(15)", x.empty(15), 1);
    }
}
