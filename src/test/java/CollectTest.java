/** Promise 7: collect, with what is looked at, what is given up, and which blocks become doubtful. */
public final class CollectTest {
    public static void main(String[] args) {
        keptFromInside();
        chainsAndRings();
        silentWordsAreNotLookedAt();
        largeWordsAreLookedAt();
        wordsThatAreNoAddresses();
        splitBlocksBecomeFree();
        doubtfulOnlyFreeBlocks();
        doubtFromObjects();
        doubtEnds();
        givenUpBlocksAreNotDoubtful();
        longChain();
        Check.end();
    }

    private static void keptFromInside() {
        int[] sizes = {2, 4, 8, 16, 32, 64, 96, 128};
        for (int n : sizes) {
            GuessingHeap x = new GuessingHeap();
            x.allocate(n, false);
            for (int j = 0; j < n; j++) {
                x.root(7, 4096 + j);
                Check.same("kept by word " + j + " of " + n, x.collect(), 0);
            }
            x.root(7, 4096 + n);
            Check.same("not kept by the word behind it, n " + n, x.collect(), 1);
            GuessingHeap y = new GuessingHeap();
            y.allocate(n, false);
            y.root(7, 4095);
            Check.same("not kept by the word before it, n " + n, y.collect(), 1);
        }
    }

    private static void chainsAndRings() {
        GuessingHeap x = new GuessingHeap();
        int a = x.allocate(2, false);
        int b = x.allocate(8, false);
        int c = x.allocate(40, false);
        int d = x.allocate(2, false);
        x.root(0, a);
        x.write(a + 1, b + 7);
        x.write(b + 3, c + 39);
        x.write(c + 63, a);
        x.write(d, a);
        x.write(d + 1, d);
        Check.same("ring: collect()", x.collect(), 1);
        Check.same("ring: base of d", x.base(d), GuessingHeap.NONE);
        Check.same("ring: objects()", x.objects(), 3);
        x.write(b + 3, 0);
        Check.same("chain cut: collect()", x.collect(), 1);
        x.root(0, 0);
        Check.same("no root: collect()", x.collect(), 2);
        Check.same("nothing left: collect()", x.collect(), 0);
        Check.same("nothing left: objects()", x.objects(), 0);
    }

    private static void silentWordsAreNotLookedAt() {
        GuessingHeap x = new GuessingHeap();
        int a = x.allocate(4, true);
        int b = x.allocate(4, false);
        x.write(a, b);
        x.write(a + 1, 4500);
        x.root(0, a);
        Check.same("silent: collect()", x.collect(), 1);
        Check.same("silent: no doubt", x.block(12), 0);
        Check.same("silent: its word stays", x.read(a), b);
        int c = x.allocate(100, true);
        int d = x.allocate(8, false);
        x.write(c + 127, d);
        x.root(1, c + 50);
        Check.same("silent and large: collect()", x.collect(), 1);
        Check.same("silent and large: base", x.base(c + 127), c);
    }

    private static void largeWordsAreLookedAt() {
        for (int j = 0; j < 128; j++) {
            GuessingHeap x = new GuessingHeap();
            int a = x.allocate(97, false);
            int b = x.allocate(2, false);
            x.write(a + j, b + 1);
            x.root(0, a);
            Check.same("word " + j + " of a large one keeps: collect()", x.collect(), 0);
        }
    }

    private static void wordsThatAreNoAddresses() {
        int[] words = {0, 1, 512, 4095, 4608, -4096, Integer.MIN_VALUE, Integer.MAX_VALUE,
            Integer.MIN_VALUE + 4096, Integer.MIN_VALUE + 4095};
        for (int w : words) {
            GuessingHeap x = new GuessingHeap();
            x.allocate(2, false);
            x.root(0, w);
            x.root(1, 4096);
            x.write(4096, w);
            Check.same("no address " + w + ": collect()", x.collect(), 0);
            for (int b = 0; b < 16; b++) {
                Check.same("no address " + w + ": block(" + b + ")", x.block(b), b == 0 ? 2 : 0);
            }
        }
    }

    private static void splitBlocksBecomeFree() {
        int[] sizes = {2, 4, 8, 16};
        for (int size : sizes) {
            GuessingHeap x = new GuessingHeap();
            for (int i = 0; i < 2 * 32 / size; i++) {
                x.allocate(size, false);
            }
            x.root(0, 4159);
            Check.same("one slot of " + size + " kept: collect()", x.collect(), 2 * 32 / size - 1);
            Check.same("one slot of " + size + " kept: block(0)", x.block(0), 0);
            Check.same("one slot of " + size + " kept: block(1)", x.block(1), size);
            Check.same("one slot of " + size + " kept: empty(1)", x.empty(1), 32 / size - 1);
            x.root(0, 0);
            Check.same("none kept: collect()", x.collect(), 1);
            Check.same("none kept: block(1)", x.block(1), 0);
            Check.same("none kept: the block for another size", x.allocate(size == 2 ? 4 : 2, false), 4096);
        }
    }

    private static void doubtfulOnlyFreeBlocks() {
        GuessingHeap x = new GuessingHeap();
        x.allocate(4, false);
        x.root(0, 4096);
        x.root(1, 4127);
        x.root(2, 4128);
        x.root(3, 4191);
        x.root(4, 4607);
        x.collect();
        int[] due = {4, 64, 64, 0, 0, 0, 0, 0, 0, 0, 0, 0, 0, 0, 0, 64};
        for (int b = 0; b < 16; b++) {
            Check.same("doubt by roots: block(" + b + ")", x.block(b), due[b]);
        }
    }

    private static void doubtFromObjects() {
        GuessingHeap x = new GuessingHeap();
        int a = x.allocate(2, false);
        int b = x.allocate(2, false);
        int c = x.allocate(2, false);
        x.root(0, a);
        x.write(a, b);
        x.write(b + 1, 4096 + 32 * 9 + 5);
        x.write(c, 4096 + 32 * 10);
        Check.same("doubt by objects: collect()", x.collect(), 1);
        Check.same("doubt by a marked object", x.block(9), 64);
        Check.same("no doubt by an object that is given up", x.block(10), 0);
    }

    private static void doubtEnds() {
        GuessingHeap x = new GuessingHeap();
        x.root(0, 4096);
        Check.same("doubt waits for a collection", x.block(0), 0);
        x.collect();
        Check.same("doubt", x.block(0), 64);
        x.root(0, 4130);
        Check.same("doubt waits for another one", x.block(0), 64);
        x.collect();
        Check.same("doubt has ended", x.block(0), 0);
        Check.same("doubt has moved", x.block(1), 64);
        x.collect();
        Check.same("doubt comes again", x.block(1), 64);
    }

    private static void givenUpBlocksAreNotDoubtful() {
        GuessingHeap x = new GuessingHeap();
        x.allocate(2, false);
        x.root(0, 4098);
        Check.same("a word to an empty slot: collect()", x.collect(), 1);
        Check.same("a word to an empty slot: block(0)", x.block(0), 0);
        x.collect();
        Check.same("the next collection: block(0)", x.block(0), 64);
        int a = x.allocate(100, false);
        int b = x.allocate(100, false);
        x.write(a, b);
        x.write(b, a);
        Check.same("a pair that is given up: collect()", x.collect(), 2);
        for (int i = 1; i < 16; i++) {
            Check.same("a pair that is given up: block(" + i + ")", x.block(i), 0);
        }
    }

    private static void longChain() {
        GuessingHeap x = new GuessingHeap();
        for (int i = 0; i < 256; i++) {
            x.allocate(2, false);
        }
        // From the last slot down to the first one, so that no pass upwards finds all at once.
        for (int i = 1; i < 240; i++) {
            x.write(4096 + 2 * i, 4096 + 2 * i - 1);
        }
        x.root(6, 4096 + 2 * 239 + 1);
        Check.same("long chain: collect()", x.collect(), 16);
        Check.same("long chain: objects()", x.objects(), 240);
        x.write(4096 + 2 * 100, 0);
        Check.same("long chain cut: collect()", x.collect(), 100);
    }
}
