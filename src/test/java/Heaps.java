/** Numbers at and beyond the edges of the heap, and heaps in states with which several tests begin. */
final class Heaps {
    /** Beside the heap's ends, far from it, and where less 4096 or times 32 wraps around. */
    static final int[] NO_ADDRESSES = {4095, 4608, 4609, 0, 1, -1, 31, 511, 512, 4096 - 32, 4096 + 32 * 17, 8192,
        -4096, -4607, 4096 + 65536, Integer.MAX_VALUE, Integer.MAX_VALUE - 4096, Integer.MIN_VALUE,
        Integer.MIN_VALUE + 4095, Integer.MIN_VALUE + 4096, Integer.MIN_VALUE + 4100, Integer.MIN_VALUE + 4607};
    /** Beside the blocks' ends, far from them, and such as 32 times make a number of the heap again. */
    static final int[] NO_BLOCKS = {-1, 16, 17, 4096, -16, 1 << 27, (1 << 27) + 3, -(1 << 27), (1 << 28) + 15,
        Integer.MAX_VALUE, Integer.MIN_VALUE};
    static final int[] NO_ROOTS = {-1, 8, 9, -8, 1 << 29, Integer.MAX_VALUE, Integer.MIN_VALUE};
    static final int[] SLOTS = {2, 4, 8, 16};
    static final int[] SIZES = {2, 4, 8, 16, 32, 64, 96, 128};

    private Heaps() {
    }

    /** The address of a block's first word. */
    static int at(int b) {
        return 4096 + 32 * b;
    }

    /** A heap without room in which no root keeps any of the four objects. */
    static GuessingHeap full() {
        GuessingHeap x = new GuessingHeap();
        for (int i = 0; i < 4; i++) {
            x.allocate(128, false);
        }
        return x;
    }

    /** A heap without room in which roots 0 .. 3 keep the four objects. */
    static GuessingHeap fullAndKept() {
        GuessingHeap x = full();
        for (int i = 0; i < 4; i++) {
            x.root(i, at(4 * i));
        }
        return x;
    }

    /** Sixteen objects of a block each, of which root r keeps that in block kept[r]; not yet collected. */
    static GuessingHeap ofOneBlockEach(int... kept) {
        GuessingHeap x = new GuessingHeap();
        for (int i = 0; i < 16; i++) {
            x.allocate(32, false);
        }
        for (int r = 0; r < kept.length; r++) {
            x.root(r, at(kept[r]));
        }
        return x;
    }

    /** A heap of FREE blocks of which those are doubtful to which roots 0, 1 .. point; collected once. */
    static GuessingHeap withDoubtful(int... blocks) {
        GuessingHeap x = new GuessingHeap();
        for (int r = 0; r < blocks.length; r++) {
            x.root(r, at(blocks[r]));
        }
        x.collect();
        return x;
    }

    /** Blocks 0 .. 3 are FREE and doubtful, and roots 4 .. 6 keep objects in all others; collected once. */
    static GuessingHeap withDoubtfulAlone() {
        GuessingHeap x = withDoubtful(0, 1, 2, 3);
        for (int r = 4; r < 7; r++) {
            x.root(r, x.allocate(128, false));
        }
        return x;
    }

    /** Every block is SPLIT, its first half an object that is kept, its second half EMPTY; collected once. */
    static GuessingHeap halfEmpty() {
        GuessingHeap x = new GuessingHeap();
        for (int i = 0; i < 32; i++) {
            x.allocate(16, false);
        }
        for (int b = 0; b < 15; b++) {
            x.write(at(b), at(b + 1));
        }
        x.root(0, at(0));
        x.collect();
        return x;
    }
}
