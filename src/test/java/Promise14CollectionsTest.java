/** The sentence of promise 14: collections. */
public final class Promise14CollectionsTest {
    private static final String HOW_MANY = "How many collections there were, by collect() and by allocate().";

    public static void main(String[] args) {
        Section s = Section.ofPromise(14);
        s.test(HOW_MANY, "by collect(), also when nothing is given up", Promise14CollectionsTest::byCollect);
        s.test(HOW_MANY, "by allocate() without room, one each time", Promise14CollectionsTest::byAllocate);
        s.test(HOW_MANY, "by allocate() that finds room by force", Promise14CollectionsTest::byForce);
        s.test(HOW_MANY, "by allocate() that fails", Promise14CollectionsTest::byFailure);
        s.test(HOW_MANY, "not by allocate() that refuses n or has room, nor by other calls",
                Promise14CollectionsTest::notByOthers);
        s.end();
        Check.end();
    }

    private static void byCollect() {
        GuessingHeap x = new GuessingHeap();
        for (int i = 1; i <= 5; i++) {
            x.collect();
            Check.same("behind " + i, x.collections(), i);
        }
    }

    private static void byAllocate() {
        GuessingHeap x = new GuessingHeap();
        for (int i = 0; i < 13; i++) {
            Check.same("before allocation " + i, x.collections(), i == 0 ? 0 : (i - 1) / 4);
            x.allocate(128, false);
        }
        Check.same("behind 13 allocations", x.collections(), 3);
        x.collect();
        Check.same("and collect()", x.collections(), 4);
    }

    private static void byForce() {
        GuessingHeap x = Heaps.withDoubtful(1, 4, 7, 10, 13);
        x.allocate(96, false);
        Check.same("collections()", x.collections(), 2);
    }

    private static void byFailure() {
        GuessingHeap x = Heaps.fullAndKept();
        Check.throwsKind("no room", () -> x.allocate(128, false), Check.STATE);
        Check.same("behind a failure", x.collections(), 1);
        Check.throwsKind("no room again", () -> x.allocate(2, false), Check.STATE);
        Check.same("behind another", x.collections(), 2);
    }

    private static void notByOthers() {
        GuessingHeap x = Heaps.full();
        Check.throwsKind("allocate(0)", () -> x.allocate(0, false), Check.ARGUMENT);
        Check.throwsKind("allocate(129)", () -> x.allocate(129, false), Check.ARGUMENT);
        x.root(0, 4096);
        x.rooted(0);
        x.write(4096, 4097);
        x.read(4096);
        x.base(4096);
        x.size(4096);
        x.silent(4096);
        x.block(0);
        x.empty(0);
        x.objects();
        Check.same("collections()", x.collections(), 0);
    }
}
