/** The sentences of promise 11: block. */
public final class Promise11BlockTest {
    private static final String DOUBTFUL = "and 64 more when it is doubtful.";

    public static void main(String[] args) {
        Section s = Section.ofPromise(11);
        s.test("What block b is: 0 FREE,", "at first, beside objects, and given up", Promise11BlockTest::free);
        s.test("2, 4, 8 or 16 when it is SPLIT into such slots,", "with one object, and full",
                Promise11BlockTest::split);
        s.test("32 when it is the first block of a LARGE object,", "of one block, and one behind another",
                Promise11BlockTest::firstOfLarge);
        s.test("33 when it is another one of it;", "the second to the fourth, up to block 15",
                Promise11BlockTest::othersOfLarge);
        s.test(DOUBTFUL, "a FREE one becomes 64, blocks 0 and 15 too", Promise11BlockTest::doubtful);
        s.test(DOUBTFUL, "those that are not FREE are never", Promise11BlockTest::neverWhenTaken);
        s.test("NONE if there is no block b.", "-1, 16, and numbers that wrap around", Promise11BlockTest::noSuchBlock);
        s.end();
        Check.end();
    }

    private static void free() {
        GuessingHeap x = new GuessingHeap();
        Check.blocks("at first", x);
        x.allocate(2, false);
        x.allocate(40, false);
        Check.blocks("beside objects", x, 2, 32, 33);
        x.collect();
        Check.blocks("given up", x);
    }

    private static void split() {
        for (int size : Heaps.SLOTS) {
            GuessingHeap x = new GuessingHeap();
            for (int i = 0; i < 32 / size; i++) {
                x.allocate(size, false);
                Check.same("slots of " + size + " behind " + (i + 1), x.block(0), size);
            }
            Check.blocks("slots of " + size, x, size);
        }
    }

    private static void firstOfLarge() {
        GuessingHeap x = new GuessingHeap();
        x.allocate(17, false);
        x.allocate(32, false);
        x.allocate(33, false);
        x.allocate(128, false);
        x.allocate(20, false);
        int[] first = {0, 1, 2, 4, 8};
        for (int b : first) {
            Check.same("block(" + b + ")", x.block(b), 32);
        }
    }

    private static void othersOfLarge() {
        GuessingHeap x = Heaps.full();
        for (int b = 0; b < 16; b++) {
            Check.same("block(" + b + ")", x.block(b), b % 4 == 0 ? 32 : 33);
        }
        x.root(0, Heaps.at(6));
        x.collect();
        Check.blocks("one is kept", x, 0, 0, 0, 0, 32, 33, 33, 33);
    }

    private static void doubtful() {
        GuessingHeap x = Heaps.withDoubtful(0, 2, 3, 7, 8, 12, 14, 15);
        Check.blocks("doubtful", x, 64, 0, 64, 64, 0, 0, 0, 64, 64, 0, 0, 0, 64, 0, 64, 64);
    }

    private static void neverWhenTaken() {
        GuessingHeap x = new GuessingHeap();
        x.allocate(16, false);
        x.allocate(64, false);
        x.root(0, 4096);
        x.root(1, 4112);
        x.root(2, 4128);
        x.root(3, 4191);
        x.collect();
        Check.blocks("roots to all of them", x, 16, 32, 33);
    }

    private static void noSuchBlock() {
        GuessingHeap x = Heaps.full();
        for (int b : Heaps.NO_BLOCKS) {
            Check.same("block(" + b + ")", x.block(b), GuessingHeap.NONE);
        }
        Check.same("block(0)", x.block(0), 32);
        Check.same("block(15)", x.block(15), 33);
    }
}
