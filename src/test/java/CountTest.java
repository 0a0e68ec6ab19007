/** Promises 13 and 14: objects and collections. */
public final class CountTest {
    public static void main(String[] args) {
        objectsAreCounted();
        mostObjects();
        collectionsAreCounted();
        failuresCount();
        Check.end();
    }

    private static void objectsAreCounted() {
        GuessingHeap x = new GuessingHeap();
        int[] sizes = {1, 2, 16, 17, 128, 8};
        for (int i = 0; i < sizes.length; i++) {
            x.allocate(sizes[i], i % 2 == 0);
            Check.same("objects() behind " + (i + 1), x.objects(), i + 1);
        }
        x.root(0, x.base(4096));
        x.write(4096, 4160 + 100);
        Check.same("collect()", x.collect(), 5);
        Check.same("objects() behind collect()", x.objects(), 1);
        Check.throwsKind("allocate(0)", () -> x.allocate(0, false), Check.ARGUMENT);
        Check.same("objects() behind a wrong call", x.objects(), 1);
    }

    private static void mostObjects() {
        GuessingHeap x = new GuessingHeap();
        for (int i = 0; i < 256; i++) {
            x.allocate(2, false);
        }
        Check.same("as many as there can be", x.objects(), 256);
        Check.same("all are given up", x.collect(), 256);
        Check.same("none is left", x.objects(), 0);
    }

    private static void collectionsAreCounted() {
        GuessingHeap x = new GuessingHeap();
        for (int i = 1; i <= 5; i++) {
            x.collect();
            Check.same("collections() behind " + i, x.collections(), i);
        }
        for (int i = 0; i < 5; i++) {
            x.allocate(128, false);
        }
        Check.same("collections() with that of allocate()", x.collections(), 6);
    }

    private static void failuresCount() {
        GuessingHeap x = new GuessingHeap();
        for (int i = 0; i < 4; i++) {
            x.root(i, x.allocate(128, true));
        }
        Check.throwsKind("no room", () -> x.allocate(128, false), Check.STATE);
        Check.same("collections() behind a failure", x.collections(), 1);
        Check.throwsKind("no room again", () -> x.allocate(2, false), Check.STATE);
        Check.same("collections() behind another", x.collections(), 2);
        Check.same("objects() behind both", x.objects(), 4);
        Check.throwsKind("a wrong number", () -> x.allocate(129, false), Check.ARGUMENT);
        Check.same("collections() behind a wrong number", x.collections(), 2);
    }
}
