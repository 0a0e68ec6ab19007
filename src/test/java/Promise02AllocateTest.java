/** The sentences of promise 2: allocate. What they lean on is tested under the terms. */
public final class Promise02AllocateTest {
    private static final String ARGUMENT = "IllegalArgumentException if n is not 1 .. 128;";
    private static final String STATE = "IllegalStateException if it fails.";

    public static void main(String[] args) {
        Section s = Section.ofPromise(2);
        s.test("Allocates n words.", "the least and the most, small and large", Promise02AllocateTest::leastAndMost);
        s.test("Answers the place of the object.", "one behind the other, small and large between each other",
                Promise02AllocateTest::places);
        s.test(ARGUMENT, "too small: 0 and less", () -> refused(0, -1, -128, Integer.MIN_VALUE));
        s.test(ARGUMENT, "too large: 129 and more", () -> refused(129, 130, 512, 513, Integer.MAX_VALUE));
        s.test(ARGUMENT, "numbers that wrap around when blocks are counted",
                () -> refused(Integer.MAX_VALUE - 30, Integer.MAX_VALUE - 31, Integer.MIN_VALUE + 1,
                        Integer.MIN_VALUE + 64, (1 << 16) + 1));
        s.test(ARGUMENT, "1 and 128 are not refused", Promise02AllocateTest::notRefused);
        s.test("(all words of its room are its own)", "the last word of a room that is larger than n",
                Promise02AllocateTest::allWordsAreItsOwn);
        s.test(STATE, "a small one in a full heap", () -> fails(1, 2, 3, 9, 16));
        s.test(STATE, "a large one in a full heap", () -> fails(17, 32, 33, 128));
        s.test(STATE, "a large one among FREE blocks that stand apart", Promise02AllocateTest::failsAmongFreeBlocks);
        s.test(STATE, "not when room is made by what is given up", Promise02AllocateTest::givenUpInTime);
        s.end();
        Check.end();
    }

    private static void leastAndMost() {
        int[] n = {1, 16, 17, 128};
        int[] due = {2, 16, 32, 128};
        for (int i = 0; i < n.length; i++) {
            GuessingHeap x = new GuessingHeap();
            Check.same("allocate(" + n[i] + ")", x.allocate(n[i], false), 4096);
            Check.same("its size", x.size(4096), due[i]);
            Check.counts("allocate(" + n[i] + ")", x, 1, 0);
        }
    }

    private static void places() {
        GuessingHeap x = new GuessingHeap();
        int[] n = {16, 2, 7, 3, 40, 1, 9, 16, 5, 4, 128, 17};
        int[] due = {4096, 4128, 4160, 4192, 4224, 4130, 4112, 4288, 4168, 4196, 4320, 4448};
        for (int i = 0; i < n.length; i++) {
            Check.same("allocation " + i, x.allocate(n[i], false), due[i]);
            Check.same("base of " + i, x.base(due[i]), due[i]);
        }
        Check.blocks("several sizes", x, 16, 2, 8, 4, 32, 33, 16, 32, 33, 33, 33, 32);
    }

    private static void refused(int... wrong) {
        for (int n : wrong) {
            GuessingHeap x = new GuessingHeap();
            Check.throwsKind("allocate(" + n + ", false)", () -> x.allocate(n, false), Check.ARGUMENT);
            Check.throwsKind("allocate(" + n + ", true)", () -> x.allocate(n, true), Check.ARGUMENT);
            Check.counts("allocate(" + n + ")", x, 0, 0);
            Check.blocks("allocate(" + n + ")", x);
        }
    }

    private static void notRefused() {
        GuessingHeap x = new GuessingHeap();
        Check.throwsKind("allocate(1, false)", () -> x.allocate(1, false), Check.NOTHING);
        Check.throwsKind("allocate(128, true)", () -> x.allocate(128, true), Check.NOTHING);
        Check.counts("both", x, 2, 0);
    }

    private static void allWordsAreItsOwn() {
        int[] n = {1, 3, 5, 9, 17, 33, 65, 97};
        for (int i = 0; i < n.length; i++) {
            GuessingHeap x = new GuessingHeap();
            int last = x.allocate(n[i], false) + Heaps.SIZES[i] - 1;
            Check.same("the last word's base, n " + n[i], x.base(last), 4096);
            Check.same("a write to it, n " + n[i], x.write(last, 77), 0);
            Check.same("a read of it, n " + n[i], x.read(last), 77);
            Check.throwsKind("the word behind it, n " + n[i], () -> x.read(last + 1), Check.STATE);
        }
    }

    private static void fails(int... numbers) {
        for (int n : numbers) {
            GuessingHeap x = Heaps.fullAndKept();
            Check.throwsKind("allocate(" + n + ", false)", () -> x.allocate(n, false), Check.STATE);
            Check.throwsKind("allocate(" + n + ", true)", () -> x.allocate(n, true), Check.STATE);
            Check.counts("allocate(" + n + ")", x, 4, 2);
        }
    }

    private static void failsAmongFreeBlocks() {
        GuessingHeap x = Heaps.ofOneBlockEach(1, 3, 5, 7, 9, 11, 13, 15);
        Check.throwsKind("two blocks among eight apart", () -> x.allocate(33, false), Check.STATE);
        Check.counts("two blocks among eight apart", x, 8, 1);
        Check.same("one block", x.allocate(32, false), 4096);
        Check.same("a small one", x.allocate(16, false), Heaps.at(2));
    }

    private static void givenUpInTime() {
        for (int n : Heaps.SIZES) {
            GuessingHeap x = Heaps.fullAndKept();
            x.root(3, 0);
            Check.same("allocate(" + n + ")", x.allocate(n, false), Heaps.at(12));
            Check.counts("allocate(" + n + ")", x, 4, 1);
        }
    }
}
