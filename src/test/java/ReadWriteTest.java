/** Promises 5 and 6: read and write. */
public final class ReadWriteTest {
    public static void main(String[] args) {
        wordsAreHeld();
        allWordsOfTheRoom();
        noAddress();
        inNoObject();
        throwingChangesNothing();
        Check.end();
    }

    private static void wordsAreHeld() {
        GuessingHeap x = new GuessingHeap();
        x.allocate(4, false);
        Check.same("first write", x.write(4097, Integer.MIN_VALUE), 0);
        Check.same("second write", x.write(4097, -1), Integer.MIN_VALUE);
        Check.same("read", x.read(4097), -1);
        Check.same("read again", x.read(4097), -1);
        Check.same("the word before", x.read(4096), 0);
        Check.same("the word behind", x.read(4098), 0);
        Check.same("third write", x.write(4097, 4096), -1);
        x.root(0, 4099);
        x.collect();
        Check.same("read behind collect()", x.read(4097), 4096);
    }

    private static void allWordsOfTheRoom() {
        GuessingHeap x = new GuessingHeap();
        int place = x.allocate(100, true);
        for (int j = 0; j < 128; j++) {
            Check.same("write of word " + j, x.write(place + j, 1000 + j), 0);
        }
        for (int j = 0; j < 128; j++) {
            Check.same("read of word " + j, x.read(place + j), 1000 + j);
        }
        Check.throwsKind("read behind it", () -> x.read(place + 128), Check.STATE);
        int slot = x.allocate(9, false);
        Check.same("the last word of a slot", x.write(slot + 15, 3), 0);
        Check.throwsKind("the slot behind it", () -> x.write(slot + 16, 3), Check.STATE);
    }

    private static void noAddress() {
        int[] wrong = {4095, 4608, 0, -1, 4096 + 32 * 17, -4096, 511, Integer.MAX_VALUE, Integer.MIN_VALUE,
            Integer.MIN_VALUE + 4096};
        GuessingHeap x = new GuessingHeap();
        for (int i = 0; i < 4; i++) {
            x.allocate(128, false);
        }
        for (int a : wrong) {
            Check.throwsKind("read(" + a + ")", () -> x.read(a), Check.INDEX);
            Check.throwsKind("write(" + a + ", 1)", () -> x.write(a, 1), Check.INDEX);
        }
        Check.same("the first address", x.write(4096, 1), 0);
        Check.same("the last address", x.write(4607, 2), 0);
    }

    private static void inNoObject() {
        GuessingHeap x = new GuessingHeap();
        Check.throwsKind("free block: read", () -> x.read(4607), Check.STATE);
        Check.throwsKind("free block: write", () -> x.write(4607, 0), Check.STATE);
        x.allocate(8, false);
        Check.throwsKind("empty slot: read", () -> x.read(4104), Check.STATE);
        Check.throwsKind("empty slot: write", () -> x.write(4127, 1), Check.STATE);
        x.collect();
        Check.throwsKind("given up: read", () -> x.read(4096), Check.STATE);
        Check.throwsKind("given up: write", () -> x.write(4096, 1), Check.STATE);
        x.allocate(128, false);
        x.collect();
        Check.throwsKind("a large one given up: read", () -> x.read(4096 + 127), Check.STATE);
    }

    private static void throwingChangesNothing() {
        GuessingHeap x = new GuessingHeap();
        x.allocate(2, false);
        Check.throwsKind("write into an empty slot", () -> x.write(4098, 77), Check.STATE);
        Check.throwsKind("write into a free block", () -> x.write(4128, 78), Check.STATE);
        x.allocate(2, false);
        x.allocate(4, false);
        Check.same("the slot's word", x.read(4098), 0);
        Check.same("the block's word", x.read(4128), 0);
        Check.same("collections()", x.collections(), 0);
    }
}
