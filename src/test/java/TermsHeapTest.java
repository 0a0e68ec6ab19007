/** The terms of the heap, its roots, its blocks, its objects and doubt. */
public final class TermsHeapTest {
    private static final String ADDRESS = "word j of block b has the ADDRESS 4096 + 32 * b + j.";
    private static final String ROOTS = "There are ROOTS 0 .. 7, one word each, at first 0.";
    private static final String SILENT = "It may be SILENT: then its words are not looked at when marking.";
    private static final String ZERO = "Words that are in no object are 0.";
    private static final String DOUBTFUL = "A block may be MARKED AS DOUBTFUL; at first none is.";

    public static void main(String[] args) {
        heapAndRoots();
        blocksAndObjects();
        doubt();
        Check.end();
    }

    private static void heapAndRoots() {
        Section s = Section.ofTerms("WORDS are ints.", "promises 3 to 6 and 8 to 12");
        s.test("WORDS are ints.", "the least and the greatest one, in roots and in objects", TermsHeapTest::anyInt);
        s.test("The HEAP has 16 BLOCKS of 32 words each;", "block 15 is the last one, and then the heap is full",
                TermsHeapTest::sixteenBlocks);
        s.test(ADDRESS, "the first and the last word of every block", TermsHeapTest::endsOfBlocks);
        s.test(ADDRESS, "4096 and 4607 are addresses, 4095 and 4608 not", TermsHeapTest::endsOfHeap);
        s.test(ROOTS, "roots 0 and 7 are there, -1 and 8 not", TermsHeapTest::firstAndLastRoot);
        s.test(ROOTS, "one word each, apart from the others", TermsHeapTest::rootsAreApart);
        s.end();
    }

    private static void anyInt() {
        GuessingHeap x = new GuessingHeap();
        x.allocate(2, false);
        int[] words = {Integer.MIN_VALUE, Integer.MAX_VALUE, -1, 1, 0, 4096, 4607, -4096};
        for (int w : words) {
            x.root(0, w);
            x.write(4097, w);
            Check.same("root 0, set to " + w, x.rooted(0), w);
            Check.same("a word, set to " + w, x.read(4097), w);
        }
    }

    private static void sixteenBlocks() {
        GuessingHeap x = new GuessingHeap();
        for (int b = 0; b < 16; b++) {
            Check.same("block " + b, x.allocate(32, false), Heaps.at(b));
        }
        Check.same("block(15)", x.block(15), 32);
        Check.same("block(16)", x.block(16), GuessingHeap.NONE);
        Check.counts("full", x, 16, 0);
        Check.same("one more than there are", x.allocate(32, false), 4096);
        Check.counts("one more than there are", x, 1, 1);
    }

    private static void endsOfBlocks() {
        GuessingHeap x = Heaps.ofOneBlockEach();
        for (int b = 0; b < 16; b++) {
            Check.same("first word of block " + b, x.base(4096 + 32 * b), Heaps.at(b));
            Check.same("last word of block " + b, x.base(4096 + 32 * b + 31), Heaps.at(b));
            Check.same("a write to its last word", x.write(4096 + 32 * b + 31, b + 1), 0);
        }
        for (int b = 0; b < 16; b++) {
            Check.same("first word of block " + b + ", read", x.read(4096 + 32 * b), 0);
            Check.same("last word of block " + b + ", read", x.read(4096 + 32 * b + 31), b + 1);
        }
    }

    private static void endsOfHeap() {
        GuessingHeap x = Heaps.full();
        Check.same("base(4096)", x.base(4096), 4096);
        Check.same("base(4607)", x.base(4607), 4480);
        Check.same("base(4095)", x.base(4095), GuessingHeap.NONE);
        Check.same("base(4608)", x.base(4608), GuessingHeap.NONE);
        Check.throwsKind("read(4096)", () -> x.read(4096), Check.NOTHING);
        Check.throwsKind("read(4607)", () -> x.read(4607), Check.NOTHING);
        Check.throwsKind("read(4095)", () -> x.read(4095), Check.INDEX);
        Check.throwsKind("read(4608)", () -> x.read(4608), Check.INDEX);
    }

    private static void firstAndLastRoot() {
        GuessingHeap x = new GuessingHeap();
        for (int r = 0; r < 8; r++) {
            Check.same("at first rooted(" + r + ")", x.rooted(r), 0);
        }
        Check.throwsKind("root(0, 1)", () -> x.root(0, 1), Check.NOTHING);
        Check.throwsKind("root(7, 1)", () -> x.root(7, 1), Check.NOTHING);
        Check.throwsKind("root(-1, 1)", () -> x.root(-1, 1), Check.INDEX);
        Check.throwsKind("root(8, 1)", () -> x.root(8, 1), Check.INDEX);
    }

    private static void rootsAreApart() {
        GuessingHeap x = new GuessingHeap();
        for (int r = 0; r < 8; r++) {
            x.root(r, 100 + r);
        }
        for (int r = 0; r < 8; r++) {
            Check.same("rooted(" + r + ")", x.rooted(r), 100 + r);
        }
    }

    private static void blocksAndObjects() {
        Section s = Section.ofTerms("A block is FREE", "promises 1, 2, 5 and 8 to 12");
        s.test("A block is FREE, SPLIT into slots of 2, 4, 8 or 16 words, one behind the other,",
                "the last slot ends with the block", TermsHeapTest::slotsFillTheBlock);
        s.test("or one of the blocks of a LARGE object, all at first FREE.", "of one to four blocks, and at first",
                TermsHeapTest::blocksOfLargeOnes);
        s.test("A slot is EMPTY or has a SMALL object.", "from one object in the block until it is full",
                TermsHeapTest::slotsBecomeTaken);
        s.test("An OBJECT is thus a slot's words, or all words of the blocks of a large one, which stand one behind "
                + "the other;", "the words before and behind it are not its own", TermsHeapTest::wordsOfAnObject);
        s.test("its PLACE is the address of its first word.", "asked of its first and of its last word",
                TermsHeapTest::placeOfAnObject);
        s.test(SILENT, "a small one: nothing kept, no doubt", () -> wordsOfASilentOne(4));
        s.test(SILENT, "a large one: nothing kept, no doubt", () -> wordsOfASilentOne(128));
        s.test(SILENT, "it is kept itself, and its words too", TermsHeapTest::silentOneIsKept);
        s.test(ZERO, "of a slot and of blocks that were given up", TermsHeapTest::givenUpWordsAreZero);
        s.test(ZERO, "behind writes that were refused", TermsHeapTest::refusedWritesLeaveZero);
        s.end();
    }

    private static void slotsFillTheBlock() {
        for (int size : Heaps.SLOTS) {
            GuessingHeap x = new GuessingHeap();
            for (int i = 0; i < 32 / size; i++) {
                Check.same("slot " + i + " of " + size, x.allocate(size, false), 4096 + size * i);
            }
            Check.same("the last slot of " + size, x.base(4127), 4128 - size);
            Check.same("behind the last slot of " + size, x.base(4128), GuessingHeap.NONE);
            Check.same("one more of " + size, x.allocate(size, false), 4128);
            Check.blocks("slots of " + size, x, size, size);
        }
    }

    private static void blocksOfLargeOnes() {
        GuessingHeap x = new GuessingHeap();
        Check.blocks("at first", x);
        x.allocate(32, false);
        x.allocate(64, false);
        x.allocate(96, false);
        x.allocate(128, false);
        Check.blocks("large ones", x, 32, 32, 33, 32, 33, 33, 32, 33, 33, 33);
    }

    private static void slotsBecomeTaken() {
        for (int size : Heaps.SLOTS) {
            GuessingHeap x = new GuessingHeap();
            for (int i = 1; i <= 32 / size; i++) {
                x.allocate(size, false);
                int next = 4096 + size * i;
                Check.same("the slot taken, " + size, x.base(next - 1), next - size);
                Check.same("the slot behind it, " + size, x.base(next), GuessingHeap.NONE);
                Check.same("empty slots of " + size, x.empty(0), 32 / size - i);
            }
        }
    }

    private static void wordsOfAnObject() {
        for (int n : Heaps.SIZES) {
            GuessingHeap x = new GuessingHeap();
            x.allocate(17, false);
            x.allocate(n, false);
            Check.same("before it, n " + n, x.base(4127), 4096);
            for (int a = 4128; a < 4128 + n; a++) {
                Check.same("base(" + a + "), n " + n, x.base(a), 4128);
                Check.same("size(" + a + "), n " + n, x.size(a), n);
            }
            Check.same("behind it, n " + n, x.base(4128 + n), GuessingHeap.NONE);
        }
    }

    private static void placeOfAnObject() {
        for (int n : Heaps.SIZES) {
            GuessingHeap x = new GuessingHeap();
            int first = x.allocate(n, false);
            int second = x.allocate(n, false);
            Check.same("the first one, n " + n, first, 4096);
            Check.same("the second one, n " + n, second, 4096 + n);
            Check.same("by its first word, n " + n, x.base(second), second);
            Check.same("by its last word, n " + n, x.base(second + n - 1), second);
            Check.same("by the word before it, n " + n, x.base(second - 1), first);
        }
    }

    private static void wordsOfASilentOne(int n) {
        GuessingHeap x = new GuessingHeap();
        int a = x.allocate(n, true);
        int b = x.allocate(16, false);
        x.root(0, a);
        x.write(a, b);
        x.write(a + n - 1, b + 15);
        x.write(a + 1, Heaps.at(12));
        Check.same("collect()", x.collect(), 1);
        Check.same("the one to which it points", x.base(b), GuessingHeap.NONE);
        Check.same("the block to which it points", x.block(12), 0);
    }

    private static void silentOneIsKept() {
        GuessingHeap x = new GuessingHeap();
        int a = x.allocate(2, false);
        int b = x.allocate(40, true);
        x.root(0, a + 1);
        x.write(a, b + 63);
        x.write(b + 63, 4500);
        Check.same("collect()", x.collect(), 0);
        Check.same("its base", x.base(b), b);
        Check.same("its word", x.read(b + 63), 4500);
    }

    private static void givenUpWordsAreZero() {
        int[][] pairs = {{2, 16}, {16, 2}, {16, 16}, {4, 32}, {32, 4}, {128, 8}, {128, 128}, {8, 64}};
        for (int[] p : pairs) {
            GuessingHeap x = new GuessingHeap();
            x.allocate(p[0], false);
            for (int j = 0; j < p[0]; j++) {
                x.write(4096 + j, 7 + j);
            }
            x.collect();
            x.allocate(p[1], false);
            for (int j = 0; j < p[1]; j++) {
                Check.same("word " + j + " of " + p[1] + " where there were " + p[0], x.read(4096 + j), 0);
            }
        }
    }

    private static void refusedWritesLeaveZero() {
        GuessingHeap x = new GuessingHeap();
        x.allocate(2, false);
        Check.throwsKind("write into an EMPTY slot", () -> x.write(4098, 77), Check.STATE);
        Check.throwsKind("write into a FREE block", () -> x.write(4128, 78), Check.STATE);
        Check.same("the slot", x.allocate(2, false), 4098);
        Check.same("the block", x.allocate(4, false), 4128);
        Check.same("the slot's word", x.read(4098), 0);
        Check.same("the block's word", x.read(4128), 0);
    }

    private static void doubt() {
        Section s = Section.ofTerms("A block may be MARKED", "promises 2, 7 and 11");
        s.test(DOUBTFUL, "none of a new heap, also when roots point there", TermsHeapTest::noDoubtAtFirst);
        s.test(DOUBTFUL, "all but one of them", TermsHeapTest::doubtEverywhere);
        s.end();
    }

    private static void noDoubtAtFirst() {
        GuessingHeap x = new GuessingHeap();
        Check.blocks("new", x);
        x.root(0, 4096);
        x.root(7, 4607);
        Check.blocks("rooted, not collected", x);
    }

    private static void doubtEverywhere() {
        GuessingHeap x = new GuessingHeap();
        x.allocate(16, false);
        x.root(0, 4096);
        for (int b = 1; b < 16; b++) {
            x.write(4096 + b, Heaps.at(b) + 2 * b);
        }
        x.collect();
        Check.blocks("doubt everywhere", x, 16, 64, 64, 64, 64, 64, 64, 64, 64, 64, 64, 64, 64, 64, 64, 64);
    }
}
