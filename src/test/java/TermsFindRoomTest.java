/** The terms of finding room, also by force. */
public final class TermsFindRoomTest {
    private static final String SLOT =
            "The room is the EMPTY slot with the least address in all blocks that are SPLIT into slots of that size;";
    private static final String BLOCK =
            "if there is none, the FREE block with the least number that is not doubtful is SPLIT so, and the room is "
            + "its first slot;";
    private static final String NO_SLOT = "if there is none, there is no room.";
    private static final String NO_BLOCKS = "if there are none, there is no room.";
    private static final String FORCE =
            "TO FIND ROOM BY FORCE is the same, but doubtful blocks count as others do.";

    public static void main(String[] args) {
        Section s = Section.ofTerms("TO FIND ROOM", "promise 2");
        small(s);
        large(s);
        byForce(s);
        s.end();
        Check.end();
    }

    private static void small(Section s) {
        s.test("TO FIND ROOM for n words, 1 .. 16: their SIZE is the least of 2, 4, 8, 16 that is not less than n.",
                "every n from 1 to 16", TermsFindRoomTest::sizesOfSlots);
        s.test(SLOT, "gaps in several blocks, the least address first", TermsFindRoomTest::leastEmptySlot);
        s.test(SLOT, "also when a FREE block has a lesser number", TermsFindRoomTest::emptySlotBeforeFreeBlock);
        s.test(SLOT, "not a slot of another size", TermsFindRoomTest::noSlotOfAnotherSize);
        s.test(SLOT, "the last slot of the heap", TermsFindRoomTest::lastSlotOfTheHeap);
        s.test(BLOCK, "when the blocks of that size are full", TermsFindRoomTest::nextFreeBlock);
        s.test(BLOCK, "doubtful blocks are passed over, up to the last block", TermsFindRoomTest::doubtfulIsPassedOver);
        s.test(BLOCK, "a FREE one between others", TermsFindRoomTest::freeBlockBetweenOthers);
        s.test(NO_SLOT, "no block is FREE", TermsFindRoomTest::noFreeBlock);
        s.test(NO_SLOT, "EMPTY slots of other sizes alone", TermsFindRoomTest::emptySlotsOfOtherSizesAlone);
        s.test(NO_SLOT, "FREE blocks that are doubtful alone", TermsFindRoomTest::doubtfulBlocksAlone);
    }

    private static void sizesOfSlots() {
        for (int n = 1; n <= 16; n++) {
            GuessingHeap x = new GuessingHeap();
            int due = n <= 2 ? 2 : n <= 4 ? 4 : n <= 8 ? 8 : 16;
            Check.same("allocate(" + n + ")", x.allocate(n, false), 4096);
            Check.same("size, n " + n, x.size(4096), due);
            Check.same("size of its last word, n " + n, x.size(4096 + due - 1), due);
            Check.same("size behind its last word, n " + n, x.size(4096 + due), 0);
            Check.blocks("n " + n, x, due);
        }
    }

    private static void leastEmptySlot() {
        GuessingHeap x = new GuessingHeap();
        for (int i = 0; i < 12; i++) {
            x.allocate(8, false);
        }
        int[] kept = {0, 2, 3, 4, 5, 6, 9};
        for (int r = 0; r < kept.length; r++) {
            x.root(r, 4096 + 8 * kept[r]);
        }
        x.collect();
        int[] due = {1, 7, 8, 10, 11, 12};
        for (int i : due) {
            Check.same("slot " + i, x.allocate(8, false), 4096 + 8 * i);
        }
    }

    private static void emptySlotBeforeFreeBlock() {
        GuessingHeap x = new GuessingHeap();
        x.allocate(32, false);
        for (int i = 0; i < 4; i++) {
            x.allocate(16, false);
        }
        x.root(0, 4144);
        x.root(1, 4160);
        Check.same("collect()", x.collect(), 3);
        Check.blocks("gaps", x, 0, 16, 16);
        Check.same("the least EMPTY slot", x.allocate(16, false), 4128);
        Check.same("the next EMPTY slot", x.allocate(16, false), 4176);
        Check.same("the FREE block", x.allocate(16, false), 4096);
    }

    private static void noSlotOfAnotherSize() {
        for (int size : Heaps.SLOTS) {
            GuessingHeap x = new GuessingHeap();
            int b = 0;
            for (int other : Heaps.SLOTS) {
                if (other != size) {
                    Check.same("slots of " + other, x.allocate(other, false), Heaps.at(b));
                    b++;
                }
            }
            Check.same("a block for slots of " + size, x.allocate(size, false), Heaps.at(3));
            Check.same("the next slot of " + size, x.allocate(size, false), Heaps.at(3) + size);
        }
    }

    private static void lastSlotOfTheHeap() {
        for (int size : Heaps.SLOTS) {
            GuessingHeap x = new GuessingHeap();
            for (int i = 0; i < 512 / size; i++) {
                Check.same("slots of " + size + ", allocation " + i, x.allocate(size, false), 4096 + size * i);
            }
            Check.counts("slots of " + size, x, 512 / size, 0);
        }
    }

    private static void nextFreeBlock() {
        GuessingHeap x = new GuessingHeap();
        Check.same("16 words", x.allocate(16, false), Heaps.at(0));
        Check.same("2 words", x.allocate(2, false), Heaps.at(1));
        Check.same("40 words", x.allocate(40, false), Heaps.at(2));
        Check.same("9 words", x.allocate(9, false), Heaps.at(0) + 16);
        Check.same("16 words, the block is full", x.allocate(16, false), Heaps.at(4));
        Check.same("1 word", x.allocate(1, false), Heaps.at(1) + 2);
        Check.same("16 words again", x.allocate(16, false), Heaps.at(4) + 16);
        Check.blocks("several sizes", x, 16, 2, 32, 33, 16);
    }

    private static void doubtfulIsPassedOver() {
        GuessingHeap x = Heaps.withDoubtful(0, 1, 2, 4, 6, 8, 10, 14);
        int[] due = {3, 5, 7, 9, 11, 12, 13, 15};
        for (int b : due) {
            Check.same("block " + b, x.allocate(16, false), Heaps.at(b));
            Check.same("the rest of block " + b, x.allocate(16, false), Heaps.at(b) + 16);
        }
        Check.counts("none is left", x, 16, 1);
    }

    private static void freeBlockBetweenOthers() {
        GuessingHeap x = Heaps.ofOneBlockEach(0, 1, 3, 4, 6, 7);
        x.collect();
        Check.same("2 words", x.allocate(2, false), Heaps.at(2));
        Check.same("4 words", x.allocate(4, false), Heaps.at(5));
        Check.same("8 words", x.allocate(8, false), Heaps.at(8));
    }

    /** No room, as can be seen by the collection; and none behind it either. */
    private static void checkNoRoom(String what, GuessingHeap x, int n) {
        int before = x.collections();
        Check.throwsKind(what + ": allocate(" + n + ")", () -> x.allocate(n, false), Check.STATE);
        Check.same(what + ": collections for " + n, x.collections() - before, 1);
    }

    private static void noFreeBlock() {
        GuessingHeap x = Heaps.fullAndKept();
        for (int n : new int[] {1, 2, 3, 8, 15, 16}) {
            checkNoRoom("full", x, n);
        }
    }

    private static void emptySlotsOfOtherSizesAlone() {
        for (int size : Heaps.SLOTS) {
            GuessingHeap x = new GuessingHeap();
            for (int i = 0; i < 3; i++) {
                x.root(i, x.allocate(128, false));
            }
            for (int i = 0; i < 3; i++) {
                x.root(3 + i, x.allocate(32, false));
            }
            x.root(6, x.allocate(size, false));
            for (int other : Heaps.SLOTS) {
                if (other != size) {
                    checkNoRoom("slots of " + size, x, other);
                }
            }
            Check.same("another slot of " + size, x.allocate(size, false), Heaps.at(15) + size);
            Check.counts("slots of " + size, x, 8, 3);
        }
    }

    private static void doubtfulBlocksAlone() {
        GuessingHeap x = Heaps.withDoubtfulAlone();
        Check.counts("doubtful blocks alone", x, 3, 1);
        Check.same("not without a collection", x.allocate(2, false), 4096);
        Check.counts("not without a collection", x, 4, 2);
    }

    private static void large(Section s) {
        s.test("For 17 .. 128 words: as many blocks as they need,", "every n from 17 to 128",
                TermsFindRoomTest::blocksForN);
        s.test("all FREE and not doubtful,", "a row with one SPLIT, LARGE or doubtful block in it does not count",
                TermsFindRoomTest::rowsWithOthers);
        s.test("one behind the other,", "gaps of one to four blocks", TermsFindRoomTest::firstGap);
        s.test("the first one with the least number;", "two gaps that fit alike, and a gap at the heap's end",
                TermsFindRoomTest::leastGap);
        s.test(NO_BLOCKS, "enough FREE blocks, but not one behind the other", TermsFindRoomTest::noRow);
        s.test(NO_BLOCKS, "the last blocks and the first ones are no row", TermsFindRoomTest::noRowAroundTheEnd);
        s.test(NO_BLOCKS, "no block is FREE", TermsFindRoomTest::noFreeBlockForLarge);
        s.test(NO_BLOCKS, "EMPTY slots are none, however many", TermsFindRoomTest::emptySlotsAreNoBlocks);
    }

    private static void blocksForN() {
        for (int n = 17; n <= 128; n++) {
            GuessingHeap x = new GuessingHeap();
            int due = n <= 32 ? 1 : n <= 64 ? 2 : n <= 96 ? 3 : 4;
            Check.same("allocate(" + n + ")", x.allocate(n, false), 4096);
            Check.same("size, n " + n, x.size(4096), 32 * due);
            Check.same("size of its last word, n " + n, x.size(4095 + 32 * due), 32 * due);
            Check.same("size behind its last word, n " + n, x.size(4096 + 32 * due), 0);
            Check.blocks("n " + n, x, 32, due > 1 ? 33 : 0, due > 2 ? 33 : 0, due > 3 ? 33 : 0);
        }
    }

    private static void rowsWithOthers() {
        GuessingHeap x = new GuessingHeap();
        for (int i = 0; i < 16; i++) {
            x.allocate(i == 1 ? 16 : 32, false);
        }
        x.root(0, Heaps.at(1));
        x.root(1, Heaps.at(3));
        x.collect();
        x.root(2, Heaps.at(5) + 31);
        x.root(3, Heaps.at(8));
        x.collect();
        Check.blocks("before", x, 0, 16, 0, 32, 0, 64, 0, 0, 64);
        Check.same("two blocks", x.allocate(64, false), Heaps.at(6));
        Check.same("three blocks", x.allocate(96, false), Heaps.at(9));
        Check.same("one block", x.allocate(32, false), Heaps.at(0));
        Check.blocks("behind", x, 32, 16, 0, 32, 0, 64, 32, 33, 64, 32, 33, 33);
        Check.counts("behind", x, 5, 2);
    }

    private static void firstGap() {
        GuessingHeap x = Heaps.ofOneBlockEach(1, 4, 8, 13);
        Check.same("collect()", x.collect(), 12);
        Check.same("three blocks", x.allocate(65, false), Heaps.at(5));
        Check.same("four blocks", x.allocate(97, false), Heaps.at(9));
        Check.same("two blocks", x.allocate(33, false), Heaps.at(2));
        Check.same("one block", x.allocate(17, false), Heaps.at(0));
        Check.same("two blocks, the last ones", x.allocate(64, false), Heaps.at(14));
        Check.counts("no room is left", x, 9, 1);
    }

    private static void leastGap() {
        GuessingHeap x = Heaps.ofOneBlockEach(0, 3, 6, 9, 10, 11);
        x.collect();
        Check.same("the first gap of two", x.allocate(64, false), Heaps.at(1));
        Check.same("the next gap of two", x.allocate(64, false), Heaps.at(4));
        Check.same("the last gap of two", x.allocate(64, false), Heaps.at(7));
        Check.same("the end of the heap", x.allocate(128, false), Heaps.at(12));
        Check.counts("no room is left", x, 10, 1);
    }

    private static void noRow() {
        GuessingHeap x = Heaps.ofOneBlockEach(1, 4, 7, 10, 13);
        x.collect();
        checkNoRoom("no three in a row", x, 65);
        checkNoRoom("no four in a row", x, 128);
        Check.same("two in a row", x.allocate(64, false), Heaps.at(2));
        Check.counts("two in a row", x, 6, 3);
    }

    private static void noRowAroundTheEnd() {
        GuessingHeap x = Heaps.ofOneBlockEach(2, 5, 8, 11, 13);
        x.collect();
        Check.blocks("two at each end", x, 0, 0, 32, 0, 0, 32, 0, 0, 32, 0, 0, 32, 0, 32, 0, 0);
        checkNoRoom("two at each end", x, 96);
        checkNoRoom("two at each end", x, 128);
        Check.same("two at the beginning", x.allocate(64, false), Heaps.at(0));
    }

    private static void noFreeBlockForLarge() {
        GuessingHeap x = Heaps.fullAndKept();
        for (int n : new int[] {17, 32, 33, 64, 65, 96, 97, 128}) {
            checkNoRoom("full", x, n);
        }
    }

    private static void emptySlotsAreNoBlocks() {
        GuessingHeap x = Heaps.halfEmpty();
        Check.same("a slot of every block: objects()", x.objects(), 16);
        checkNoRoom("a slot of every block", x, 17);
        Check.same("a small one", x.allocate(16, false), 4112);
    }

    private static void byForce(Section s) {
        s.test(FORCE, "for a small one: the least doubtful block", TermsFindRoomTest::smallByForce);
        s.test(FORCE, "for a large one: doubtful blocks and others in one row", TermsFindRoomTest::largeByForce);
        s.test(FORCE, "one behind the other, also then", TermsFindRoomTest::noRowByForce);
    }

    private static void smallByForce() {
        for (int size : Heaps.SLOTS) {
            GuessingHeap x = Heaps.withDoubtful(6, 5, 4, 7);
            x.root(4, x.allocate(128, false));
            x.root(5, x.allocate(128, false));
            x.root(6, x.allocate(128, false));
            Check.same("the least one, slots of " + size, x.allocate(size, false), Heaps.at(4));
            Check.same("its next slot", x.allocate(size, false), Heaps.at(4) + size);
            Check.blocks("slots of " + size, x, 32, 33, 33, 33, size, 64, 64, 64, 32, 33, 33, 33, 32, 33, 33, 33);
            Check.counts("slots of " + size, x, 5, 2);
        }
    }

    private static void largeByForce() {
        GuessingHeap x = Heaps.withDoubtful(2, 5, 8, 11, 14);
        Check.same("four blocks", x.allocate(128, false), Heaps.at(0));
        Check.blocks("four blocks", x, 32, 33, 33, 33, 0, 64, 0, 0, 64, 0, 0, 64, 0, 0, 64);
        Check.counts("four blocks", x, 1, 2);
        Check.same("three blocks", x.allocate(65, false), Heaps.at(4));
        Check.blocks("three blocks", x, 32, 33, 33, 33, 32, 33, 33, 0, 64, 0, 0, 64, 0, 0, 64);
        Check.counts("three blocks", x, 2, 3);
    }

    private static void noRowByForce() {
        GuessingHeap x = Heaps.ofOneBlockEach(3, 6, 9, 12);
        x.collect();
        x.root(4, Heaps.at(1));
        x.root(5, Heaps.at(14));
        x.collect();
        checkNoRoom("no four in a row", x, 97);
        Check.same("three in a row", x.allocate(96, false), Heaps.at(0));
        Check.counts("three in a row", x, 5, 4);
    }
}
