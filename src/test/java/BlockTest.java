/** Promises 11 and 12: block and empty. */
public final class BlockTest {
    public static void main(String[] args) {
        noSuchBlock();
        kindsOfBlocks();
        emptySlotsAreCounted();
        largeSideBySide();
        doubtfulBlocks();
        Check.end();
    }

    private static void noSuchBlock() {
        GuessingHeap x = new GuessingHeap();
        for (int i = 0; i < 16; i++) {
            x.allocate(2, false);
        }
        int[] wrong = {-1, 16, 17, 4096, -16, Integer.MAX_VALUE, Integer.MIN_VALUE};
        for (int b : wrong) {
            Check.same("block(" + b + ")", x.block(b), GuessingHeap.NONE);
            Check.same("empty(" + b + ")", x.empty(b), 0);
        }
    }

    private static void kindsOfBlocks() {
        GuessingHeap x = new GuessingHeap();
        x.allocate(1, false);
        x.allocate(3, false);
        x.allocate(5, false);
        x.allocate(9, false);
        x.allocate(17, false);
        x.allocate(65, false);
        int[] kinds = {2, 4, 8, 16, 32, 32, 33, 33, 0};
        int[] empties = {15, 7, 3, 1, 0, 0, 0, 0, 0};
        for (int b = 0; b < kinds.length; b++) {
            Check.same("kinds: block(" + b + ")", x.block(b), kinds[b]);
            Check.same("kinds: empty(" + b + ")", x.empty(b), empties[b]);
        }
        Check.same("kinds: block(15)", x.block(15), 0);
    }

    private static void emptySlotsAreCounted() {
        int[] sizes = {2, 4, 8, 16};
        for (int size : sizes) {
            GuessingHeap x = new GuessingHeap();
            for (int i = 1; i <= 32 / size; i++) {
                x.allocate(size, false);
                Check.same("slots of " + size + ": empty(0) behind " + i, x.empty(0), 32 / size - i);
                Check.same("slots of " + size + ": block(0) behind " + i, x.block(0), size);
            }
            Check.same("slots of " + size + ": empty(1)", x.empty(1), 0);
            x.root(0, 4096);
            x.collect();
            Check.same("slots of " + size + ": empty(0) behind collect()", x.empty(0), 32 / size - 1);
        }
    }

    private static void largeSideBySide() {
        GuessingHeap x = new GuessingHeap();
        x.allocate(40, false);
        x.allocate(40, false);
        x.allocate(20, false);
        x.allocate(128, false);
        int[] due = {32, 33, 32, 33, 32, 32, 33, 33, 33, 0};
        for (int b = 0; b < due.length; b++) {
            Check.same("side by side: block(" + b + ")", x.block(b), due[b]);
        }
        x.root(0, 4096 + 32 * 3);
        x.collect();
        int[] left = {0, 0, 32, 33, 0, 0, 0, 0, 0, 0};
        for (int b = 0; b < left.length; b++) {
            Check.same("one kept: block(" + b + ")", x.block(b), left[b]);
        }
    }

    private static void doubtfulBlocks() {
        GuessingHeap x = new GuessingHeap();
        for (int r = 0; r < 8; r++) {
            x.root(r, 4096 + 64 * r + 31);
        }
        x.collect();
        for (int b = 0; b < 16; b++) {
            Check.same("doubtful: block(" + b + ")", x.block(b), b % 2 == 0 ? 64 : 0);
            Check.same("doubtful: empty(" + b + ")", x.empty(b), 0);
        }
        Check.same("doubtful: two blocks by force", x.allocate(64, false), 4096);
        Check.same("taken: block(0)", x.block(0), 32);
        Check.same("taken: block(1)", x.block(1), 33);
        Check.same("not taken: block(2)", x.block(2), 64);
    }
}
