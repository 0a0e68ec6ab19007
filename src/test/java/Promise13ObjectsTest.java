/** The sentence of promise 13: objects. */
public final class Promise13ObjectsTest {
    private static final String HOW_MANY = "How many objects there are.";

    public static void main(String[] args) {
        Section s = Section.ofPromise(13);
        s.test(HOW_MANY, "0 at first, one more with every allocation, a large one counts once",
                Promise13ObjectsTest::oneMore);
        s.test(HOW_MANY, "256, as many as there can be, and 0 again", Promise13ObjectsTest::most);
        s.test(HOW_MANY, "as before when allocate() refuses n", Promise13ObjectsTest::refused);
        s.test(HOW_MANY, "as many as are left when allocate() fails", Promise13ObjectsTest::failed);
        s.test(HOW_MANY, "less those that allocate() gave up", Promise13ObjectsTest::givenUpByAllocate);
        s.end();
        Check.end();
    }

    private static void oneMore() {
        GuessingHeap x = new GuessingHeap();
        Check.same("at first", x.objects(), 0);
        int[] sizes = {1, 2, 16, 17, 128, 8};
        for (int i = 0; i < sizes.length; i++) {
            x.allocate(sizes[i], i % 2 == 0);
            Check.same("behind " + (i + 1), x.objects(), i + 1);
        }
        x.root(0, 4096);
        x.collect();
        Check.same("one is kept", x.objects(), 1);
    }

    private static void most() {
        GuessingHeap x = new GuessingHeap();
        for (int i = 0; i < 256; i++) {
            x.allocate(2, false);
        }
        Check.same("all slots are taken", x.objects(), 256);
        x.collect();
        Check.same("all are given up", x.objects(), 0);
        x.collect();
        Check.same("collected once more", x.objects(), 0);
    }

    private static void refused() {
        GuessingHeap x = Heaps.full();
        Check.throwsKind("allocate(0)", () -> x.allocate(0, false), Check.ARGUMENT);
        Check.throwsKind("allocate(129)", () -> x.allocate(129, false), Check.ARGUMENT);
        Check.same("objects()", x.objects(), 4);
    }

    private static void failed() {
        GuessingHeap x = Heaps.ofOneBlockEach(0, 2, 4, 6, 8, 10, 12, 14);
        Check.throwsKind("allocate(64)", () -> x.allocate(64, false), Check.STATE);
        Check.same("objects()", x.objects(), 8);
    }

    private static void givenUpByAllocate() {
        GuessingHeap x = Heaps.full();
        x.root(0, 4096);
        x.allocate(2, false);
        Check.same("objects()", x.objects(), 2);
    }
}
