/** The terms of looking at a word. */
public final class TermsLookAtTest {
    private static final String MARKS =
            "TO LOOK AT a word w: if it is the address of a word of an object, that object is MARKED.";
    private static final String DOUBTS =
            "If it is an address of the heap, but in a FREE block, the block becomes doubtful.";
    private static final String NOTHING = "Otherwise nothing.";

    public static void main(String[] args) {
        Section s = Section.ofTerms("TO LOOK AT", "promises 2, 7 and 11");
        s.test(MARKS, "every word of an object, from its first to its last", TermsLookAtTest::everyWordKeeps);
        s.test(MARKS, "not the word before it nor the word behind it", TermsLookAtTest::wordsBesideDoNotKeep);
        s.test(MARKS, "that object alone, not those beside it", TermsLookAtTest::neighboursAreNotKept);
        s.test(MARKS, "the last word of the heap", TermsLookAtTest::lastWordOfTheHeap);
        s.test(DOUBTS, "the first and the last word of every block, and no other block", TermsLookAtTest::endsOfBlocks);
        s.test(DOUBTS, "several words to one block", TermsLookAtTest::severalWordsToOneBlock);
        s.test(DOUBTS, "by words of marked objects, not of those that are given up", TermsLookAtTest::doubtByObjects);
        s.test(NOTHING, "words that are no addresses, in roots and in objects", TermsLookAtTest::noAddresses);
        s.test(NOTHING, "a word to an EMPTY slot of a SPLIT block", TermsLookAtTest::emptySlot);
        s.test(NOTHING, "a word to an EMPTY slot of a block that this collection makes FREE",
                TermsLookAtTest::emptySlotOfABlockThatBecomesFree);
        s.test(NOTHING, "the same by a word of an object that is marked", TermsLookAtTest::emptySlotByAnObject);
        s.end();
        Check.end();
    }

    private static void everyWordKeeps() {
        for (int n : Heaps.SIZES) {
            GuessingHeap x = new GuessingHeap();
            x.allocate(n, false);
            for (int j = 0; j < n; j++) {
                x.root(7, 4096 + j);
                Check.same("by word " + j + " of " + n, x.collect(), 0);
            }
        }
    }

    private static void wordsBesideDoNotKeep() {
        for (int n : Heaps.SIZES) {
            for (int beside : new int[] {4127, 4128 + n}) {
                GuessingHeap x = new GuessingHeap();
                x.allocate(32, false);
                x.allocate(n, false);
                x.root(7, beside);
                x.collect();
                Check.same("by word " + beside + " beside " + n, x.base(4128), GuessingHeap.NONE);
            }
        }
    }

    private static void neighboursAreNotKept() {
        for (int n : Heaps.SIZES) {
            GuessingHeap x = new GuessingHeap();
            for (int i = 0; i < 3; i++) {
                x.allocate(n, false);
            }
            int middle = x.base(4096 + n);
            x.root(0, middle);
            x.root(1, middle + n - 1);
            Check.same("collect(), n " + n, x.collect(), 2);
            Check.same("the one before, n " + n, x.base(middle - 1), GuessingHeap.NONE);
            Check.same("the one that is meant, n " + n, x.base(middle + n - 1), middle);
            Check.same("the one behind, n " + n, x.base(middle + n), GuessingHeap.NONE);
        }
    }

    private static void lastWordOfTheHeap() {
        GuessingHeap x = Heaps.full();
        x.root(0, 4607);
        Check.same("collect()", x.collect(), 3);
        Check.same("base(4480)", x.base(4480), 4480);
    }

    private static void endsOfBlocks() {
        for (int b = 0; b < 16; b++) {
            for (int word : new int[] {Heaps.at(b), Heaps.at(b) + 31}) {
                GuessingHeap x = new GuessingHeap();
                x.root(b % 8, word);
                x.collect();
                for (int other = 0; other < 16; other++) {
                    Check.same("word " + word + ": block(" + other + ")", x.block(other), other == b ? 64 : 0);
                }
            }
        }
    }

    private static void severalWordsToOneBlock() {
        GuessingHeap x = new GuessingHeap();
        for (int r = 0; r < 8; r++) {
            x.root(r, Heaps.at(4) + 4 * r);
        }
        x.collect();
        Check.blocks("eight words to block 4", x, 0, 0, 0, 0, 64);
    }

    private static void doubtByObjects() {
        GuessingHeap x = new GuessingHeap();
        int a = x.allocate(2, false);
        int b = x.allocate(2, false);
        int c = x.allocate(2, false);
        x.root(0, a);
        x.write(a, b);
        x.write(b + 1, Heaps.at(9) + 5);
        x.write(c, Heaps.at(10));
        Check.same("collect()", x.collect(), 1);
        Check.blocks("by objects", x, 2, 0, 0, 0, 0, 0, 0, 0, 0, 64);
    }

    private static void noAddresses() {
        for (int w : Heaps.NO_ADDRESSES) {
            GuessingHeap x = new GuessingHeap();
            x.allocate(2, false);
            x.allocate(32, false);
            x.root(0, w);
            x.root(1, 4096);
            x.write(4096, w);
            Check.same("no address " + w + ": collect()", x.collect(), 1);
            Check.blocks("no address " + w, x, 2);
        }
    }

    private static void emptySlot() {
        for (int size : Heaps.SLOTS) {
            GuessingHeap x = new GuessingHeap();
            x.allocate(size, false);
            x.root(0, 4096);
            x.root(1, 4096 + size);
            x.root(2, 4127);
            Check.same("collect(), slots of " + size, x.collect(), 0);
            Check.blocks("slots of " + size, x, size);
            Check.same("empty(0), slots of " + size, x.empty(0), 32 / size - 1);
        }
    }

    private static void emptySlotOfABlockThatBecomesFree() {
        for (int size : Heaps.SLOTS) {
            for (int word : new int[] {4096 + size, 4127}) {
                GuessingHeap x = new GuessingHeap();
                x.allocate(size, false);
                x.root(0, word);
                String told = "slots of " + size + ", word " + word;
                Check.same(told + ": collect()", x.collect(), 1);
                Check.blocks(told + ", when it becomes FREE", x);
                x.collect();
                Check.blocks(told + ", when it is FREE already", x, 64);
            }
        }
    }

    private static void emptySlotByAnObject() {
        GuessingHeap x = new GuessingHeap();
        x.allocate(4, false);
        x.allocate(64, false);
        x.root(0, 4128);
        x.write(4191, 4100);
        Check.same("collect()", x.collect(), 1);
        Check.blocks("when it becomes FREE", x, 0, 32, 33);
        x.collect();
        Check.blocks("when it is FREE already", x, 64, 32, 33);
    }
}
