/** The sentences of promise 7: collect. What they lean on is tested under the terms. */
public final class Promise07CollectTest {
    private static final String ANSWERS = "Answers how many objects were given up.";

    public static void main(String[] args) {
        Section s = Section.ofPromise(7);
        s.test("Collects.", "also when there is room, and again at once", Promise07CollectTest::collects);
        s.test(ANSWERS, "0 in a heap without objects", Promise07CollectTest::none);
        s.test(ANSWERS, "0 in a full heap that is kept", Promise07CollectTest::noneOfAFullHeap);
        s.test(ANSWERS, "all 256, as many as there can be", Promise07CollectTest::all);
        s.test(ANSWERS, "a large one counts once", Promise07CollectTest::largeCountsOnce);
        s.test(ANSWERS, "silent ones and those that point at each other too", Promise07CollectTest::allKinds);
        s.end();
        Check.end();
    }

    private static void collects() {
        GuessingHeap x = new GuessingHeap();
        x.allocate(2, false);
        x.root(0, 4128);
        Check.same("collect()", x.collect(), 1);
        Check.counts("collected", x, 0, 1);
        Check.blocks("collected", x, 0, 64);
        Check.same("collect() again", x.collect(), 0);
        Check.counts("collected again", x, 0, 2);
        Check.blocks("collected again", x, 0, 64);
    }

    private static void none() {
        GuessingHeap x = new GuessingHeap();
        Check.same("collect()", x.collect(), 0);
    }

    private static void noneOfAFullHeap() {
        GuessingHeap x = Heaps.fullAndKept();
        Check.same("collect()", x.collect(), 0);
        Check.same("objects()", x.objects(), 4);
    }

    private static void all() {
        GuessingHeap x = new GuessingHeap();
        for (int i = 0; i < 256; i++) {
            x.allocate(2, i % 2 == 0);
        }
        Check.same("collect()", x.collect(), 256);
        Check.same("collect() again", x.collect(), 0);
    }

    private static void largeCountsOnce() {
        GuessingHeap x = Heaps.full();
        Check.same("four of four blocks each", x.collect(), 4);
    }

    private static void allKinds() {
        GuessingHeap x = new GuessingHeap();
        int a = x.allocate(1, false);
        int b = x.allocate(100, true);
        int c = x.allocate(16, false);
        int d = x.allocate(33, false);
        x.write(a, b);
        x.write(b, a);
        x.write(c, d);
        x.root(0, d);
        Check.same("collect()", x.collect(), 3);
    }
}
