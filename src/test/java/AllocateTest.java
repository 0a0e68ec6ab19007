/** Promise 2: allocate, with finding room, finding it by force, and failing. */
public final class AllocateTest {
    public static void main(String[] args) {
        sizesOfRoom();
        wrongNumbers();
        slotsInOrder();
        blocksOfSeveralSizes();
        emptySlotBeforeFreeBlock();
        largeTakesFirstGap();
        newWordsAreZero();
        collectsOnlyWithoutRoom();
        doubtfulIsAvoided();
        doubtfulByForceAfterCollecting();
        largeByForce();
        collectingMayEndDoubt();
        collectedRoomBeforeForce();
        failsSmall();
        failsLargeButCollected();
        silentIsOfTheNewObject();
        Check.end();
    }

    private static void sizesOfRoom() {
        for (int n = 1; n <= 128; n++) {
            GuessingHeap x = new GuessingHeap();
            int due = n <= 2 ? 2 : n <= 4 ? 4 : n <= 8 ? 8 : n <= 16 ? 16 : n <= 32 ? 32 : n <= 64 ? 64
                    : n <= 96 ? 96 : 128;
            Check.same("allocate(" + n + ")", x.allocate(n, false), 4096);
            Check.same("size behind allocate(" + n + ")", x.size(4096), due);
            Check.same("size of its last word, n " + n, x.size(4096 + due - 1), due);
            Check.same("size behind its last word, n " + n, x.size(4096 + due), 0);
            Check.same("block(0) behind allocate(" + n + ")", x.block(0), Math.min(due, 32));
            Check.same("block(1) behind allocate(" + n + ")", x.block(1), n > 32 ? 33 : 0);
            Check.same("block(3) behind allocate(" + n + ")", x.block(3), n > 96 ? 33 : 0);
            Check.same("block(4) behind allocate(" + n + ")", x.block(4), 0);
        }
    }

    private static void wrongNumbers() {
        int[] wrong = {0, -1, 129, 130, 512, 513, Integer.MAX_VALUE, Integer.MAX_VALUE - 30, Integer.MIN_VALUE};
        for (int n : wrong) {
            GuessingHeap x = new GuessingHeap();
            Check.throwsKind("allocate(" + n + ", false)", () -> x.allocate(n, false), Check.ARGUMENT);
            Check.throwsKind("allocate(" + n + ", true)", () -> x.allocate(n, true), Check.ARGUMENT);
            Check.same("objects() behind allocate(" + n + ")", x.objects(), 0);
            Check.same("collections() behind allocate(" + n + ")", x.collections(), 0);
            Check.same("block(0) behind allocate(" + n + ")", x.block(0), 0);
        }
        GuessingHeap full = full();
        Check.throwsKind("full: allocate(129, false)", () -> full.allocate(129, false), Check.ARGUMENT);
        Check.same("full: collections() behind a wrong number", full.collections(), 0);
    }

    /** A heap without room in which no root keeps anything. */
    private static GuessingHeap full() {
        GuessingHeap x = new GuessingHeap();
        for (int i = 0; i < 4; i++) {
            x.allocate(128, false);
        }
        return x;
    }

    /** A heap without room in which roots 0 .. 3 keep everything. */
    private static GuessingHeap fullAndKept() {
        GuessingHeap x = full();
        for (int i = 0; i < 4; i++) {
            x.root(i, 4096 + 128 * i + 127);
        }
        return x;
    }

    private static void slotsInOrder() {
        int[] sizes = {2, 4, 8, 16};
        for (int size : sizes) {
            GuessingHeap x = new GuessingHeap();
            for (int i = 0; i < 512 / size; i++) {
                Check.same("slots of " + size + ", allocation " + i, x.allocate(size, false), 4096 + size * i);
            }
            Check.same("slots of " + size + ": collections()", x.collections(), 0);
            Check.same("slots of " + size + ": objects()", x.objects(), 512 / size);
            Check.same("slots of " + size + ": one more", x.allocate(size, false), 4096);
            Check.same("slots of " + size + ": collections() then", x.collections(), 1);
            Check.same("slots of " + size + ": objects() then", x.objects(), 1);
        }
    }

    private static void blocksOfSeveralSizes() {
        GuessingHeap x = new GuessingHeap();
        Check.same("16 words", x.allocate(16, false), 4096);
        Check.same("2 words", x.allocate(2, false), 4128);
        Check.same("8 words", x.allocate(7, false), 4160);
        Check.same("4 words", x.allocate(3, false), 4192);
        Check.same("40 words", x.allocate(40, false), 4224);
        Check.same("1 word", x.allocate(1, false), 4130);
        Check.same("9 words", x.allocate(9, false), 4112);
        Check.same("16 words, the block is full", x.allocate(16, false), 4288);
        Check.same("5 words", x.allocate(5, false), 4168);
        Check.same("4 words again", x.allocate(4, false), 4196);
        int[] due = {16, 2, 8, 4, 32, 33, 16, 0};
        for (int b = 0; b < due.length; b++) {
            Check.same("several sizes: block(" + b + ")", x.block(b), due[b]);
        }
    }

    private static void emptySlotBeforeFreeBlock() {
        GuessingHeap x = new GuessingHeap();
        x.allocate(32, false);
        for (int i = 0; i < 4; i++) {
            x.allocate(16, false);
        }
        x.root(0, 4144);
        x.root(1, 4160);
        Check.same("gaps: collect()", x.collect(), 3);
        Check.same("gaps: block(0)", x.block(0), 0);
        Check.same("gaps: the least empty slot", x.allocate(16, false), 4128);
        Check.same("gaps: the next empty slot", x.allocate(16, false), 4176);
        Check.same("gaps: the free block", x.allocate(16, false), 4096);
    }

    private static void largeTakesFirstGap() {
        GuessingHeap x = new GuessingHeap();
        for (int i = 0; i < 16; i++) {
            x.allocate(32, false);
        }
        int[] kept = {1, 4, 8, 13};
        for (int i = 0; i < kept.length; i++) {
            x.root(i, 4096 + 32 * kept[i]);
        }
        Check.same("gaps for large ones: collect()", x.collect(), 12);
        Check.same("three blocks", x.allocate(65, false), 4096 + 32 * 5);
        Check.same("four blocks", x.allocate(97, false), 4096 + 32 * 9);
        Check.same("two blocks", x.allocate(33, false), 4096 + 32 * 2);
        Check.same("one block", x.allocate(17, false), 4096);
        Check.same("two blocks, the last ones", x.allocate(64, false), 4096 + 32 * 14);
        Check.same("no collection for these", x.collections(), 1);
    }

    private static void newWordsAreZero() {
        int[] sizes = {2, 4, 8, 16, 32, 64, 128};
        for (int n : sizes) {
            GuessingHeap x = new GuessingHeap();
            int place = x.allocate(n, false);
            x.write(place, 7);
            x.write(place + n / 2, 8);
            x.write(place + n - 1, 9);
            x.collect();
            Check.same("again, n " + n, x.allocate(n, false), place);
            Check.same("first word anew, n " + n, x.read(place), 0);
            Check.same("middle word anew, n " + n, x.read(place + n / 2), 0);
            Check.same("last word anew, n " + n, x.read(place + n - 1), 0);
        }
    }

    private static void collectsOnlyWithoutRoom() {
        GuessingHeap x = full();
        Check.same("full: collections()", x.collections(), 0);
        Check.same("full: allocate(128)", x.allocate(128, false), 4096);
        Check.same("full: collections() then", x.collections(), 1);
        Check.same("full: objects() then", x.objects(), 1);
        x.allocate(128, false);
        Check.same("room again: collections()", x.collections(), 1);
    }

    private static void doubtfulIsAvoided() {
        GuessingHeap x = new GuessingHeap();
        x.root(0, 4096);
        x.root(1, 4096 + 32 * 3 + 31);
        x.collect();
        Check.same("doubtful: small", x.allocate(2, false), 4128);
        Check.same("doubtful: two blocks", x.allocate(64, false), 4096 + 32 * 4);
        Check.same("doubtful: one block", x.allocate(32, false), 4096 + 32 * 2);
        Check.same("doubtful: another size", x.allocate(4, false), 4096 + 32 * 6);
        Check.same("doubtful: block(0)", x.block(0), 64);
        Check.same("doubtful: block(3)", x.block(3), 64);
        Check.same("doubtful: collections()", x.collections(), 1);
    }

    private static void doubtfulByForceAfterCollecting() {
        GuessingHeap x = new GuessingHeap();
        for (int r = 0; r < 4; r++) {
            x.root(r, 4096 + 32 * r + r);
        }
        x.collect();
        for (int i = 1; i < 4; i++) {
            Check.same("force: large " + i, x.allocate(128, false), 4096 + 128 * i);
            x.root(3 + i, 4096 + 128 * i);
        }
        Check.same("force: small", x.allocate(2, false), 4096);
        Check.same("force: collections()", x.collections(), 2);
        Check.same("force: objects()", x.objects(), 4);
        Check.same("force: block(0)", x.block(0), 2);
        Check.same("force: block(1)", x.block(1), 64);
        Check.same("force: then a slot without a collection", x.allocate(2, false), 4098);
        Check.same("force: collections() still", x.collections(), 2);
    }

    private static void largeByForce() {
        GuessingHeap x = new GuessingHeap();
        x.root(0, 4096 + 32 * 2);
        x.root(1, 4096 + 32 * 5);
        x.root(2, 4096 + 32 * 8);
        x.root(3, 4096 + 32 * 11);
        x.root(4, 4096 + 32 * 14);
        x.collect();
        Check.same("large by force", x.allocate(128, false), 4096);
        Check.same("large by force: collections()", x.collections(), 2);
        int[] due = {32, 33, 33, 33, 0, 64, 0, 0, 64};
        for (int b = 0; b < due.length; b++) {
            Check.same("large by force: block(" + b + ")", x.block(b), due[b]);
        }
        Check.same("large by force again", x.allocate(65, false), 4096 + 32 * 4);
        Check.same("large by force again: collections()", x.collections(), 3);
        Check.same("large by force again: objects()", x.objects(), 2);
    }

    private static void collectingMayEndDoubt() {
        GuessingHeap x = new GuessingHeap();
        x.root(0, 4100);
        x.collect();
        x.root(0, 0);
        Check.same("doubt: block(0)", x.block(0), 64);
        for (int i = 0; i < 15; i++) {
            x.allocate(32, false);
        }
        x.root(1, 4128);
        Check.same("doubt has ended", x.allocate(32, false), 4096);
        Check.same("doubt has ended: collections()", x.collections(), 2);
        Check.same("doubt has ended: objects()", x.objects(), 2);
    }

    private static void collectedRoomBeforeForce() {
        int[] sizes = {2, 16, 32, 128};
        for (int n : sizes) {
            GuessingHeap x = new GuessingHeap();
            x.root(0, 4096);
            x.collect();
            for (int i = 1; i < 16; i++) {
                Check.same("beside doubt, block " + i, x.allocate(32, false), 4096 + 32 * i);
            }
            Check.same("collected room before force, n " + n, x.allocate(n, false), 4128);
            Check.same("collected room before force: block(0)", x.block(0), 64);
            Check.same("collected room before force: collections()", x.collections(), 2);
        }
    }

    private static void failsSmall() {
        GuessingHeap x = fullAndKept();
        Check.throwsKind("kept and full: allocate(1)", () -> x.allocate(1, false), Check.STATE);
        Check.throwsKind("kept and full: allocate(16)", () -> x.allocate(16, true), Check.STATE);
        Check.throwsKind("kept and full: allocate(17)", () -> x.allocate(17, false), Check.STATE);
        Check.same("kept and full: collections()", x.collections(), 3);
        Check.same("kept and full: objects()", x.objects(), 4);
        Check.same("kept and full: block(0)", x.block(0), 32);
    }

    private static void failsLargeButCollected() {
        GuessingHeap x = new GuessingHeap();
        for (int i = 0; i < 16; i++) {
            x.allocate(32, false);
        }
        for (int r = 0; r < 5; r++) {
            x.root(r, 4096 + 32 * (3 * r + 1));
        }
        Check.throwsKind("no three in a row", () -> x.allocate(65, false), Check.STATE);
        Check.same("no three in a row: objects()", x.objects(), 5);
        Check.same("no three in a row: collections()", x.collections(), 1);
        Check.same("no three in a row: block(0)", x.block(0), 0);
        Check.same("no three in a row: block(1)", x.block(1), 32);
        Check.same("two in a row", x.allocate(64, false), 4096 + 32 * 2);
        Check.same("two in a row: collections()", x.collections(), 1);
    }

    private static void silentIsOfTheNewObject() {
        GuessingHeap x = new GuessingHeap();
        x.allocate(2, true);
        x.collect();
        x.allocate(2, false);
        Check.same("not silent where a silent one was", x.silent(4096), false);
        x.collect();
        x.allocate(40, true);
        Check.same("silent where another one was", x.silent(4096 + 63), true);
    }
}
