/** The sentences of promise 6: write. */
public final class Promise06WriteTest {
    private static final String WRITES = "Writes a word at an address.";
    private static final String ANSWERS = "Answers the word that was there.";
    private static final String THROWS = "Throws as read() does.";

    public static void main(String[] args) {
        Section s = Section.ofPromise(6);
        s.test(WRITES, "there, and neither before nor behind", Promise06WriteTest::thereAlone);
        s.test(WRITES, "the first and the last word of the heap", Promise06WriteTest::endsOfTheHeap);
        s.test(WRITES, "in a silent object too", Promise06WriteTest::inASilentOne);
        s.test(ANSWERS, "0 at first, then what was written last", Promise06WriteTest::answersTheWordBefore);
        s.test(THROWS, "IndexOutOfBoundsException: 4095, 4608, and numbers that wrap around",
                Promise06WriteTest::noAddress);
        s.test(THROWS, "IllegalStateException: FREE block, EMPTY slot, given up", Promise06WriteTest::inNoObject);
        s.end();
        Check.end();
    }

    private static void thereAlone() {
        GuessingHeap x = new GuessingHeap();
        x.allocate(4, false);
        x.write(4097, 8);
        int[] due = {0, 8, 0, 0};
        for (int j = 0; j < 4; j++) {
            Check.same("word " + j, x.read(4096 + j), due[j]);
        }
    }

    private static void endsOfTheHeap() {
        GuessingHeap x = Heaps.full();
        Check.same("write(4096, 1)", x.write(4096, 1), 0);
        Check.same("write(4607, 2)", x.write(4607, 2), 0);
        Check.same("read(4096)", x.read(4096), 1);
        Check.same("read(4607)", x.read(4607), 2);
    }

    private static void inASilentOne() {
        GuessingHeap x = new GuessingHeap();
        x.allocate(16, true);
        Check.same("write(4111, 4111)", x.write(4111, 4111), 0);
        Check.same("read(4111)", x.read(4111), 4111);
    }

    private static void answersTheWordBefore() {
        GuessingHeap x = new GuessingHeap();
        x.allocate(4, false);
        int[] words = {Integer.MIN_VALUE, -1, 0, 4097, 4097, Integer.MAX_VALUE, 0};
        int before = 0;
        for (int w : words) {
            Check.same("write(4099, " + w + ")", x.write(4099, w), before);
            before = w;
        }
    }

    private static void noAddress() {
        GuessingHeap x = Heaps.full();
        for (int a : Heaps.NO_ADDRESSES) {
            Check.throwsKind("write(" + a + ", 1)", () -> x.write(a, 1), Check.INDEX);
        }
    }

    private static void inNoObject() {
        GuessingHeap x = new GuessingHeap();
        Check.throwsKind("FREE block, first word", () -> x.write(4096, 1), Check.STATE);
        Check.throwsKind("FREE block, last word", () -> x.write(4607, 0), Check.STATE);
        x.allocate(8, false);
        Check.throwsKind("EMPTY slot, first word", () -> x.write(4104, 1), Check.STATE);
        Check.throwsKind("EMPTY slot, last word", () -> x.write(4127, 1), Check.STATE);
        x.collect();
        Check.throwsKind("given up", () -> x.write(4096, 1), Check.STATE);
        x.allocate(128, false);
        x.collect();
        Check.throwsKind("a large one given up", () -> x.write(4096 + 127, 1), Check.STATE);
    }
}
