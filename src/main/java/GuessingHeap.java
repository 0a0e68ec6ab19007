import java.util.Arrays;

/**
 * A heap whose collector does not know which words are addresses: every word that could be one
 * keeps what it points at, and free blocks to which words point are avoided while others are left.
 *
 * Inside, a word of the heap is known by its spot, its address less FIRST_ADDRESS, and an object by
 * the spot of its first word, its start.
 */
public final class GuessingHeap {
    public static final int NONE = -1;

    private static final int FIRST_ADDRESS = 4096;
    private static final int BLOCKS = 16;
    private static final int BLOCK_WORDS = 32;
    private static final int HEAP_WORDS = BLOCKS * BLOCK_WORDS;
    private static final int ROOTS = 8;
    private static final int LEAST_SLOT = 2;
    private static final int GREATEST_SLOT = 16;
    private static final int MOST_OBJECTS = HEAP_WORDS / LEAST_SLOT;
    private static final int MOST_WORDS = 128;

    // What a block is, in the numbers that block() answers; a SPLIT block is its slots' size.
    private static final int FREE = 0;
    private static final int LARGE_FIRST = 32;
    private static final int LARGE_OTHER = 33;
    private static final int DOUBTFUL_MORE = 64;

    private final int[] roots = new int[ROOTS];
    private final int[] kinds = new int[BLOCKS];
    private final boolean[] doubtful = new boolean[BLOCKS];

    private final int[] words = new int[HEAP_WORDS];
    /** For every spot the start of the object that it is in, or NONE. */
    private final int[] starts = new int[HEAP_WORDS];

    // These three say something at the start of an object alone.
    private final int[] lengths = new int[HEAP_WORDS];
    private final boolean[] unread = new boolean[HEAP_WORDS];
    private final boolean[] marked = new boolean[HEAP_WORDS];

    /** The starts of the marked objects, in the order in which they were marked. */
    private final int[] found = new int[MOST_OBJECTS];
    private int foundCount = 0;

    private int objectCount = 0;
    private int collectionCount = 0;

    public GuessingHeap() {
        Arrays.fill(starts, NONE);
    }

    public int allocate(int n, boolean silent) throws IllegalArgumentException, IllegalStateException {
        if (n < 1 || n > MOST_WORDS) {
            throw new IllegalArgumentException("n is not 1 .. 128");
        }
        int start = findRoom(n, false);
        if (start == NONE) {
            collectNow();
            start = findRoom(n, false);
        }
        if (start == NONE) {
            start = findRoom(n, true);
        }
        if (start == NONE) {
            throw new IllegalStateException("there is no room");
        }
        if (n <= GREATEST_SLOT) {
            placeSmall(start, slotSize(n), silent);
        } else {
            placeLarge(start, blocksFor(n), silent);
        }
        return FIRST_ADDRESS + start;
    }

    public void root(int r, int word) throws IndexOutOfBoundsException {
        checkRoot(r);
        roots[r] = word;
    }

    public int rooted(int r) throws IndexOutOfBoundsException {
        checkRoot(r);
        return roots[r];
    }

    public int read(int address) throws IndexOutOfBoundsException, IllegalStateException {
        checkInObject(address);
        return words[address - FIRST_ADDRESS];
    }

    public int write(int address, int word) throws IndexOutOfBoundsException, IllegalStateException {
        checkInObject(address);
        int before = words[address - FIRST_ADDRESS];
        words[address - FIRST_ADDRESS] = word;
        return before;
    }

    public int collect() {
        return collectNow();
    }

    public int base(int address) {
        int start = startAt(address);
        return start == NONE ? NONE : FIRST_ADDRESS + start;
    }

    public int size(int address) {
        int start = startAt(address);
        return start == NONE ? 0 : lengths[start];
    }

    public boolean silent(int address) {
        int start = startAt(address);
        return start != NONE && unread[start];
    }

    public int block(int b) {
        if (!isBlock(b)) {
            return NONE;
        }
        return doubtful[b] ? kinds[b] + DOUBTFUL_MORE : kinds[b];
    }

    public int empty(int b) {
        if (!isBlock(b) || !isSplit(b)) {
            return 0;
        }
        return wordsInNoObject(b) / kinds[b];
    }

    public int objects() {
        return objectCount;
    }

    public int collections() {
        return collectionCount;
    }

    // Arguments.

    private static boolean isAddress(int word) {
        return word >= FIRST_ADDRESS && word < FIRST_ADDRESS + HEAP_WORDS;
    }

    private static boolean isBlock(int b) {
        return b >= 0 && b < BLOCKS;
    }

    private static void checkRoot(int r) {
        if (r < 0 || r >= ROOTS) {
            throw new IndexOutOfBoundsException("there is no such root");
        }
    }

    private void checkInObject(int address) {
        if (!isAddress(address)) {
            throw new IndexOutOfBoundsException("this is no address of the heap");
        }
        if (startAt(address) == NONE) {
            throw new IllegalStateException("this word is in no object");
        }
    }

    private int startAt(int address) {
        return isAddress(address) ? starts[address - FIRST_ADDRESS] : NONE;
    }

    // Blocks.

    private boolean isSplit(int b) {
        return kinds[b] >= LEAST_SLOT && kinds[b] <= GREATEST_SLOT;
    }

    private int wordsInNoObject(int b) {
        int count = 0;
        for (int j = 0; j < BLOCK_WORDS; j++) {
            if (starts[b * BLOCK_WORDS + j] == NONE) {
                count++;
            }
        }
        return count;
    }

    // Finding room, which changes nothing: a block is split when its first object is placed.

    private static int slotSize(int n) {
        for (int size = LEAST_SLOT; size < GREATEST_SLOT; size *= 2) {
            if (size >= n) {
                return size;
            }
        }
        return GREATEST_SLOT;
    }

    private static int blocksFor(int n) {
        return (n + BLOCK_WORDS - 1) / BLOCK_WORDS;
    }

    /** The start of the room for n words, or NONE. */
    private int findRoom(int n, boolean byForce) {
        if (n > GREATEST_SLOT) {
            return findBlocks(blocksFor(n), byForce);
        }
        int start = findEmptySlot(slotSize(n));
        return start != NONE ? start : findBlocks(1, byForce);
    }

    private int findEmptySlot(int size) {
        // The first word in no object of a SPLIT block is the first word of a slot.
        for (int spot = 0; spot < HEAP_WORDS; spot++) {
            if (kinds[spot / BLOCK_WORDS] == size && starts[spot] == NONE) {
                return spot;
            }
        }
        return NONE;
    }

    private int findBlocks(int count, boolean byForce) {
        int row = 0;
        for (int b = 0; b < BLOCKS; b++) {
            boolean usable = kinds[b] == FREE && (byForce || !doubtful[b]);
            row = usable ? row + 1 : 0;
            if (row == count) {
                return (b - count + 1) * BLOCK_WORDS;
            }
        }
        return NONE;
    }

    // Placing objects. The words of the room are 0 before, as all words in no object are.

    private void placeSmall(int start, int size, boolean silent) {
        takeBlock(start / BLOCK_WORDS, size);
        placeObject(start, size, silent);
    }

    private void placeLarge(int start, int count, boolean silent) {
        int first = start / BLOCK_WORDS;
        takeBlock(first, LARGE_FIRST);
        for (int b = first + 1; b < first + count; b++) {
            takeBlock(b, LARGE_OTHER);
        }
        placeObject(start, count * BLOCK_WORDS, silent);
    }

    private void takeBlock(int b, int kind) {
        kinds[b] = kind;
        doubtful[b] = false;
    }

    private void placeObject(int start, int length, boolean silent) {
        Arrays.fill(starts, start, start + length, start);
        lengths[start] = length;
        unread[start] = silent;
        objectCount++;
    }

    // Collecting.

    /** Answers how many objects were given up. */
    private int collectNow() {
        collectionCount++;
        forgetMarks();
        lookAtRoots();
        lookAtMarkedObjects();
        int before = objectCount;
        giveUpUnmarkedObjects();
        freeBlocksWithoutObjects();
        return before - objectCount;
    }

    private void forgetMarks() {
        for (int b = 0; b < BLOCKS; b++) {
            doubtful[b] = false;
        }
        for (int spot = 0; spot < HEAP_WORDS; spot++) {
            marked[spot] = false;
        }
        foundCount = 0;
    }

    private void lookAtRoots() {
        for (int r = 0; r < ROOTS; r++) {
            lookAt(roots[r]);
        }
    }

    private void lookAtMarkedObjects() {
        // Objects that are marked on the way are put behind the others, so this comes to them too.
        for (int i = 0; i < MOST_OBJECTS && i < foundCount; i++) {
            int start = found[i];
            if (!unread[start]) {
                lookAtWords(start, lengths[start]);
            }
        }
    }

    private void lookAtWords(int start, int length) {
        for (int j = 0; j < length; j++) {
            lookAt(words[start + j]);
        }
    }

    private void lookAt(int word) {
        if (!isAddress(word)) {
            return;
        }
        int start = startAt(word);
        int b = (word - FIRST_ADDRESS) / BLOCK_WORDS;
        if (start != NONE) {
            mark(start);
        } else if (kinds[b] == FREE) {
            doubtful[b] = true;
        }
    }

    private void mark(int start) {
        if (!marked[start] && foundCount < MOST_OBJECTS) {
            marked[start] = true;
            found[foundCount] = start;
            foundCount++;
        }
    }

    private void giveUpUnmarkedObjects() {
        for (int spot = 0; spot < HEAP_WORDS; spot++) {
            if (starts[spot] == spot && !marked[spot]) {
                giveUp(spot, lengths[spot]);
            }
        }
    }

    private void giveUp(int start, int length) {
        Arrays.fill(words, start, start + length, 0);
        Arrays.fill(starts, start, start + length, NONE);
        objectCount--;
    }

    private void freeBlocksWithoutObjects() {
        for (int b = 0; b < BLOCKS; b++) {
            if (wordsInNoObject(b) == BLOCK_WORDS) {
                kinds[b] = FREE;
            }
        }
    }
}
