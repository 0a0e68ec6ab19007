/** The terms of allocating. */
public final class TermsAllocateTest {
    private static final String FIND = "TO ALLOCATE n words, silent or not: room is found;";
    private static final String COLLECT = "if there is none, it is collected, and room is found;";
    private static final String FORCE = "if there is none then, it is found by force.";
    private static final String FAIL = "If there is none then, it fails (what was collected stays so).";
    private static final String ZERO =
            "In the room there is a new object then, all its words 0 (of a slot all, of blocks all);";
    private static final String NO_DOUBT = "its blocks are not doubtful any more.";

    public static void main(String[] args) {
        Section s = Section.ofTerms("TO ALLOCATE", "promise 2");
        s.test(FIND, "no collection while there is room, up to the last room", TermsAllocateTest::noCollectionWithRoom);
        s.test(FIND, "silent or not, also where the other one was", TermsAllocateTest::silentOrNot);
        s.test(COLLECT, "a full heap: once, and all is given up that no root keeps", TermsAllocateTest::fullHeap);
        s.test(COLLECT, "doubt that this collection ends", TermsAllocateTest::doubtEnds);
        s.test(COLLECT, "doubt that this collection brings is avoided", TermsAllocateTest::doubtComes);
        s.test(COLLECT, "an EMPTY slot behind it, not a FREE block", TermsAllocateTest::emptySlotBehindIt);
        s.test(FORCE, "only when the collection left no other room", TermsAllocateTest::otherRoomBeforeForce);
        s.test(FORCE, "small and large, with one collection each", TermsAllocateTest::byForce);
        s.test(FAIL, "a full heap that is kept: nothing but the collection counts", TermsAllocateTest::fullAndKept);
        s.test(FAIL, "objects that were given up stay so, and doubt too", TermsAllocateTest::collectedStaysSo);
        s.test(FAIL, "also where blocks are doubtful", TermsAllocateTest::failsAlsoByForce);
        s.test(ZERO, "all words of every size, found, collected for, or by force", TermsAllocateTest::allWordsZero);
        s.test(NO_DOUBT, "a small one's block by force", TermsAllocateTest::noDoubtSmall);
        s.test(NO_DOUBT, "all blocks of a large one by force, and no others", TermsAllocateTest::noDoubtLarge);
        s.end();
        Check.end();
    }

    private static void noCollectionWithRoom() {
        for (int n : Heaps.SIZES) {
            GuessingHeap x = new GuessingHeap();
            int fit = n == 96 ? 5 : 512 / n;
            for (int i = 0; i < fit; i++) {
                Check.same("n " + n + ", allocation " + i, x.allocate(n, false), 4096 + n * i);
            }
            Check.counts("n " + n + ", the last room is taken", x, fit, 0);
            Check.same("n " + n + ", one more", x.allocate(n, false), 4096);
            Check.counts("n " + n + ", one more", x, 1, 1);
        }
    }

    private static void silentOrNot() {
        GuessingHeap x = new GuessingHeap();
        x.allocate(2, true);
        Check.same("a silent one", x.silent(4096), true);
        x.collect();
        x.allocate(2, false);
        Check.same("not silent where a silent one was", x.silent(4096), false);
        x.collect();
        x.allocate(40, true);
        Check.same("silent where another one was", x.silent(4096 + 63), true);
        x.collect();
        x.allocate(128, false);
        Check.same("not silent, large", x.silent(4096 + 63), false);
    }

    private static void fullHeap() {
        GuessingHeap x = Heaps.full();
        x.root(0, Heaps.at(7));
        Check.same("allocate(128)", x.allocate(128, false), 4096);
        Check.counts("allocate(128)", x, 2, 1);
        Check.blocks("allocate(128)", x, 32, 33, 33, 33, 32, 33, 33, 33);
        Check.same("room again", x.allocate(128, false), Heaps.at(8));
        Check.counts("room again", x, 3, 1);
    }

    private static void doubtEnds() {
        GuessingHeap x = Heaps.withDoubtful(0);
        x.root(0, 0);
        Check.blocks("doubt", x, 64);
        for (int i = 1; i < 16; i++) {
            x.allocate(32, false);
        }
        x.root(1, 4128);
        Check.same("allocate(32)", x.allocate(32, false), 4096);
        Check.counts("allocate(32)", x, 2, 2);
        Check.blocks("allocate(32)", x, 32, 32);
    }

    private static void doubtComes() {
        GuessingHeap x = new GuessingHeap();
        x.allocate(32, false);
        for (int r = 0; r < 7; r++) {
            x.root(r, x.allocate(64, false));
        }
        x.root(7, x.allocate(32, false));
        Check.same("block 0 becomes FREE: collect()", x.collect(), 1);
        x.root(0, 0);
        x.root(7, Heaps.at(0) + 31);
        Check.same("allocate(64)", x.allocate(64, false), Heaps.at(1));
        Check.counts("allocate(64)", x, 7, 2);
        Check.blocks("allocate(64)", x, 64, 32, 33, 32, 33, 32, 33, 32, 33, 32, 33, 32, 33, 32, 33, 0);
    }

    private static void emptySlotBehindIt() {
        GuessingHeap x = new GuessingHeap();
        for (int i = 0; i < 32; i++) {
            x.allocate(16, false);
        }
        x.root(0, 4096 + 16 * 11);
        Check.same("the EMPTY slot beside the one kept", x.allocate(16, false), 4096 + 16 * 10);
        Check.counts("behind it", x, 2, 1);
        Check.same("then the first FREE block", x.allocate(16, false), 4096);
    }

    private static void otherRoomBeforeForce() {
        for (int n : Heaps.SIZES) {
            GuessingHeap x = Heaps.withDoubtful(0);
            for (int i = 1; i < 16; i++) {
                Check.same("beside doubt, block " + i, x.allocate(32, false), Heaps.at(i));
            }
            Check.same("collected room, n " + n, x.allocate(n, false), 4128);
            Check.same("the doubtful block, n " + n, x.block(0), 64);
            Check.counts("collected room, n " + n, x, 1, 2);
        }
    }

    private static void byForce() {
        GuessingHeap x = Heaps.withDoubtfulAlone();
        Check.same("two blocks by force", x.allocate(64, false), 4096);
        Check.counts("two blocks by force", x, 4, 2);
        // Root 0 keeps the large one now; roots 2 and 3 still point at FREE blocks.
        Check.same("a small one by force", x.allocate(3, false), Heaps.at(2));
        Check.counts("a small one by force", x, 5, 3);
        Check.same("its next slot needs none", x.allocate(4, false), Heaps.at(2) + 4);
        Check.counts("its next slot needs none", x, 6, 3);
    }

    private static void fullAndKept() {
        for (int n : new int[] {1, 16, 17, 128}) {
            GuessingHeap x = Heaps.fullAndKept();
            Check.throwsKind("allocate(" + n + ")", () -> x.allocate(n, true), Check.STATE);
            Check.counts("allocate(" + n + ")", x, 4, 1);
            Check.blocks("allocate(" + n + ")", x, 32, 33, 33, 33, 32, 33, 33, 33, 32, 33, 33, 33, 32, 33, 33, 33);
            x.root(2, 0);
            Check.same("when one is no longer kept, n " + n, x.allocate(n, true), Heaps.at(8));
        }
    }

    private static void collectedStaysSo() {
        GuessingHeap x = Heaps.ofOneBlockEach(1, 4, 7, 10, 13);
        x.collect();
        x.allocate(2, false);
        x.root(5, Heaps.at(15) + 3);
        Check.throwsKind("no three in a row", () -> x.allocate(65, false), Check.STATE);
        Check.counts("no three in a row", x, 5, 2);
        Check.blocks("no three in a row", x, 0, 32, 0, 0, 32, 0, 0, 32, 0, 0, 32, 0, 0, 32, 0, 64);
        Check.same("the small one's place", x.base(4096), GuessingHeap.NONE);
        Check.same("two in a row", x.allocate(64, false), Heaps.at(2));
        Check.counts("two in a row", x, 6, 2);
    }

    private static void failsAlsoByForce() {
        GuessingHeap x = Heaps.ofOneBlockEach(2, 5, 8, 11);
        x.collect();
        x.root(4, Heaps.at(14));
        x.root(5, Heaps.at(0));
        x.root(6, Heaps.at(3));
        Check.same("four blocks", x.allocate(128, false), Heaps.at(12));
        Check.throwsKind("four blocks again", () -> x.allocate(128, false), Check.STATE);
        Check.throwsKind("three blocks", () -> x.allocate(65, false), Check.STATE);
        Check.counts("three blocks", x, 5, 3);
        Check.blocks("three blocks", x, 64, 0, 32, 64, 0, 32, 0, 0, 32, 0, 0, 32, 32, 33, 33, 33);
    }

    private static void allWordsZero() {
        for (int n : Heaps.SIZES) {
            GuessingHeap found = new GuessingHeap();
            checkZero("found", found, found.allocate(n, false), n);
            GuessingHeap collected = Heaps.full();
            for (int j = 0; j < 128; j++) {
                collected.write(4096 + j, -1 - j);
            }
            checkZero("collected for", collected, collected.allocate(n, false), n);
            GuessingHeap forced = Heaps.withDoubtfulAlone();
            checkZero("by force", forced, forced.allocate(n, false), n);
        }
    }

    private static void checkZero(String what, GuessingHeap x, int place, int n) {
        Check.same(what + ": the place, n " + n, place, 4096);
        for (int j = 0; j < n; j++) {
            Check.same(what + ": word " + j + " of " + n, x.read(place + j), 0);
        }
    }

    private static void noDoubtSmall() {
        for (int n : Heaps.SLOTS) {
            GuessingHeap x = Heaps.withDoubtfulAlone();
            Check.same("n " + n, x.allocate(n, false), 4096);
            Check.blocks("n " + n, x, n, 64, 64, 64, 32, 33, 33, 33, 32, 33, 33, 33, 32, 33, 33, 33);
        }
    }

    private static void noDoubtLarge() {
        GuessingHeap x = Heaps.withDoubtful(0, 2, 4, 6, 8, 10, 12, 14);
        Check.same("three blocks", x.allocate(96, false), 4096);
        Check.blocks("three blocks", x, 32, 33, 33, 0, 64, 0, 64, 0, 64, 0, 64, 0, 64, 0, 64);
    }
}
