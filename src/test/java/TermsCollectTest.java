/** The terms of collecting. */
public final class TermsCollectTest {
    private static final String ROOTS = "then all roots are looked at,";
    private static final String WORDS = "and all words of every object that is marked and not silent.";
    private static final String FEWEST = "(So the marked ones are the fewest that agree with this.)";
    private static final String SPLIT = "and every SPLIT block that has EMPTY slots alone becomes FREE.";
    private static final String NO_DOUBT = "(Blocks that become FREE so are not doubtful.)";

    public static void main(String[] args) {
        Section s = Section.ofTerms("TO COLLECT", "promises 2, 7, 11 and 12");
        s.test("TO COLLECT: no block is doubtful any more;", "it ends, moves, and comes again with the words",
                TermsCollectTest::doubtEnds);
        s.test("no object is marked;", "one that was marked before is not for that", TermsCollectTest::marksEnd);
        s.test(ROOTS, "each one of the eight", TermsCollectTest::everyRoot);
        s.test(ROOTS, "all of them in one collection", TermsCollectTest::allRoots);
        s.test(WORDS, "every word of a slot and of blocks", TermsCollectTest::everyWord);
        s.test(WORDS, "chains over objects of all kinds", TermsCollectTest::chain);
        s.test(WORDS, "a heap full of objects that are all marked", TermsCollectTest::fullAndAllMarked);
        s.test(WORDS, "many words to one object, and a chain behind it", TermsCollectTest::manyWordsToOneObject);
        s.test(WORDS, "not those of a silent one on the way", TermsCollectTest::chainThroughASilentOne);
        s.test(FEWEST, "not one that points at itself, nor a ring", TermsCollectTest::rings);
        s.test(FEWEST, "a long chain, against the order of addresses", TermsCollectTest::longChain);
        s.test("Then every object that is not marked is given up: its words become 0,", "first, middle and last word",
                TermsCollectTest::wordsBecomeZero);
        s.test("its slot EMPTY,", "the first, a middle and the last slot of a block",
                TermsCollectTest::slotBecomesEmpty);
        s.test("its blocks FREE;", "one to four, those of its neighbours not", TermsCollectTest::blocksBecomeFree);
        s.test(SPLIT, "with one object left it stays SPLIT, with none it becomes FREE",
                TermsCollectTest::splitBecomesFree);
        s.test(SPLIT, "a full heap of 256 objects", TermsCollectTest::allSplitBecomeFree);
        s.test(NO_DOUBT, "by words of objects that are given up too", TermsCollectTest::noDoubtByThoseGivenUp);
        s.test(NO_DOUBT, "by words of silent objects", TermsCollectTest::noDoubtBySilentOnes);
        s.test(NO_DOUBT, "by a word to an EMPTY slot: allocate() takes the block without force",
                TermsCollectTest::noDoubtByEmptySlots);
        s.end();
        Check.end();
    }

    private static void doubtEnds() {
        GuessingHeap x = new GuessingHeap();
        x.root(0, 4096);
        Check.blocks("before a collection", x);
        x.collect();
        Check.blocks("behind it", x, 64);
        x.root(0, 4130);
        Check.blocks("before another one", x, 64);
        x.collect();
        Check.blocks("behind that", x, 0, 64);
        x.collect();
        Check.blocks("it comes again", x, 0, 64);
        x.root(0, 0);
        x.collect();
        Check.blocks("it ends", x);
    }

    private static void marksEnd() {
        for (int n : Heaps.SIZES) {
            GuessingHeap x = new GuessingHeap();
            x.root(0, x.allocate(n, false));
            Check.same("rooted: collect(), n " + n, x.collect(), 0);
            Check.same("rooted: collect() again, n " + n, x.collect(), 0);
            x.root(0, 0);
            Check.same("not rooted: collect(), n " + n, x.collect(), 1);
        }
    }

    private static void everyRoot() {
        for (int r = 0; r < 8; r++) {
            GuessingHeap x = new GuessingHeap();
            x.allocate(2, false);
            x.root(r, 4097);
            Check.same("root " + r + " set: collect()", x.collect(), 0);
            x.root(r, 0);
            Check.same("root " + r + " not set: collect()", x.collect(), 1);
        }
    }

    private static void allRoots() {
        GuessingHeap x = Heaps.ofOneBlockEach(1, 3, 5, 7, 8, 10, 12, 15);
        Check.same("collect()", x.collect(), 8);
        Check.blocks("eight are kept", x, 0, 32, 0, 32, 0, 32, 0, 32, 32, 0, 32, 0, 32, 0, 0, 32);
        for (int r = 0; r < 8; r++) {
            Check.same("the root stays, " + r, x.base(x.rooted(r)), x.rooted(r));
        }
    }

    private static void everyWord() {
        for (int n : Heaps.SIZES) {
            for (int j = 0; j < n; j++) {
                GuessingHeap x = new GuessingHeap();
                int a = x.allocate(n, false);
                int b = x.allocate(n == 2 ? 4 : 2, false);
                x.root(0, a);
                x.write(a + j, b + 1);
                Check.same("word " + j + " of " + n + ": collect()", x.collect(), 0);
            }
        }
    }

    private static void chain() {
        GuessingHeap x = new GuessingHeap();
        int a = x.allocate(2, false);
        int b = x.allocate(8, false);
        int c = x.allocate(40, false);
        int d = x.allocate(16, false);
        int e = x.allocate(128, true);
        x.root(0, a);
        x.write(a + 1, b + 7);
        x.write(b + 3, c + 39);
        x.write(c + 63, d + 15);
        x.write(d, e + 127);
        Check.same("chain: collect()", x.collect(), 0);
        x.write(b + 3, 0);
        Check.same("chain cut: collect()", x.collect(), 3);
        Check.blocks("chain cut", x, 2, 8);
        x.root(0, 0);
        Check.same("no root: collect()", x.collect(), 2);
    }

    private static void fullAndAllMarked() {
        GuessingHeap x = new GuessingHeap();
        for (int i = 0; i < 128; i++) {
            x.allocate(4, false);
        }
        for (int i = 1; i < 128; i++) {
            x.write(4096 + 4 * i + 3, 4096 + 4 * i - 2);
        }
        x.root(3, 4604);
        Check.same("collect()", x.collect(), 0);
        Check.counts("all are marked", x, 128, 1);
        Check.same("empty(0)", x.empty(0), 0);
        Check.same("empty(15)", x.empty(15), 0);
    }

    private static void manyWordsToOneObject() {
        GuessingHeap x = new GuessingHeap();
        int a = x.allocate(128, false);
        int b = x.allocate(2, false);
        int c = x.allocate(2, false);
        int d = x.allocate(2, false);
        for (int j = 0; j < 127; j++) {
            x.write(a + j, a + j);
        }
        x.write(a + 127, b);
        x.write(b, c);
        x.write(c, d);
        x.root(0, a);
        Check.same("collect()", x.collect(), 0);
        Check.same("the last one", x.base(d), d);
    }

    private static void chainThroughASilentOne() {
        GuessingHeap x = new GuessingHeap();
        int a = x.allocate(4, false);
        int b = x.allocate(4, true);
        int c = x.allocate(4, false);
        x.root(0, a);
        x.write(a, b);
        x.write(b, c);
        Check.same("over a silent one: collect()", x.collect(), 1);
        Check.same("the silent one", x.base(b), b);
        Check.same("the one behind it", x.base(c), GuessingHeap.NONE);
        Check.same("the silent one's word stays", x.read(b), c);
    }

    private static void rings() {
        GuessingHeap x = new GuessingHeap();
        int a = x.allocate(2, false);
        int b = x.allocate(100, false);
        int c = x.allocate(2, false);
        int d = x.allocate(2, false);
        x.write(a, b);
        x.write(b + 99, a);
        x.write(c, c + 1);
        x.write(c + 1, d);
        x.root(0, d);
        Check.same("a ring and one that points at itself: collect()", x.collect(), 3);
        Check.same("a ring", x.base(a), GuessingHeap.NONE);
        Check.same("one that points at itself", x.base(c), GuessingHeap.NONE);
        Check.same("one at which that points", x.base(d), d);
    }

    private static void longChain() {
        GuessingHeap x = new GuessingHeap();
        for (int i = 0; i < 256; i++) {
            x.allocate(2, false);
        }
        // From the last slot down to the first one, so that no pass upwards finds all at once.
        for (int i = 1; i < 240; i++) {
            x.write(4096 + 2 * i, 4096 + 2 * i - 1);
        }
        x.root(6, 4096 + 2 * 239 + 1);
        Check.same("long chain: collect()", x.collect(), 16);
        Check.same("long chain: objects()", x.objects(), 240);
        x.write(4096 + 2 * 100, 0);
        Check.same("long chain cut: collect()", x.collect(), 100);
    }

    private static void wordsBecomeZero() {
        for (int n : Heaps.SIZES) {
            GuessingHeap x = new GuessingHeap();
            int place = x.allocate(n, false);
            x.write(place, 7);
            x.write(place + n / 2, 8);
            x.write(place + n - 1, 9);
            x.collect();
            Check.throwsKind("first word, n " + n, () -> x.read(place), Check.STATE);
            Check.throwsKind("last word, n " + n, () -> x.read(place + n - 1), Check.STATE);
            Check.same("again, n " + n, x.allocate(n, false), place);
            Check.same("first word anew, n " + n, x.read(place), 0);
            Check.same("middle word anew, n " + n, x.read(place + n / 2), 0);
            Check.same("last word anew, n " + n, x.read(place + n - 1), 0);
        }
    }

    private static void slotBecomesEmpty() {
        for (int gone : new int[] {0, 3, 7}) {
            GuessingHeap x = new GuessingHeap();
            for (int i = 0; i < 8; i++) {
                x.allocate(4, false);
                x.root(i, i == gone ? 0 : 4096 + 4 * i);
            }
            Check.same("collect(), slot " + gone, x.collect(), 1);
            Check.same("empty(0), slot " + gone, x.empty(0), 1);
            Check.same("base, slot " + gone, x.base(4096 + 4 * gone), GuessingHeap.NONE);
            Check.same("the next small one, slot " + gone, x.allocate(4, false), 4096 + 4 * gone);
        }
    }

    private static void blocksBecomeFree() {
        GuessingHeap x = new GuessingHeap();
        int[] sizes = {32, 128, 64, 96, 33, 17};
        for (int n : sizes) {
            x.allocate(n, false);
        }
        Check.blocks("before", x, 32, 32, 33, 33, 33, 32, 33, 32, 33, 33, 32, 33, 32);
        x.root(0, Heaps.at(6));
        x.root(1, Heaps.at(12));
        Check.same("collect()", x.collect(), 4);
        Check.blocks("two are kept", x, 0, 0, 0, 0, 0, 32, 33, 0, 0, 0, 0, 0, 32);
        Check.same("they are in no object", x.base(Heaps.at(4) + 31), GuessingHeap.NONE);
        x.root(0, 0);
        x.root(1, 0);
        Check.same("collect() again", x.collect(), 2);
        Check.blocks("none is kept", x);
    }

    private static void splitBecomesFree() {
        for (int size : Heaps.SLOTS) {
            GuessingHeap x = new GuessingHeap();
            for (int i = 0; i < 2 * 32 / size; i++) {
                x.allocate(size, false);
            }
            x.root(0, 4159);
            Check.same("one slot of " + size + ": collect()", x.collect(), 2 * 32 / size - 1);
            Check.blocks("one slot of " + size, x, 0, size);
            Check.same("one slot of " + size + ": empty(1)", x.empty(1), 32 / size - 1);
            x.root(0, 0);
            Check.same("no slot of " + size + ": collect()", x.collect(), 1);
            Check.blocks("no slot of " + size, x);
            Check.same("no slot of " + size + ": empty(1)", x.empty(1), 0);
            Check.same("for another size", x.allocate(size == 2 ? 4 : 2, false), 4096);
        }
    }

    private static void allSplitBecomeFree() {
        GuessingHeap x = new GuessingHeap();
        for (int i = 0; i < 256; i++) {
            x.allocate(2, false);
        }
        x.root(0, 4606);
        Check.same("all but the last one: collect()", x.collect(), 255);
        Check.blocks("the last one is kept", x, 0, 0, 0, 0, 0, 0, 0, 0, 0, 0, 0, 0, 0, 0, 0, 2);
        Check.same("the last one is kept: empty(15)", x.empty(15), 15);
    }

    private static void noDoubtByThoseGivenUp() {
        GuessingHeap x = new GuessingHeap();
        int a = x.allocate(100, false);
        int b = x.allocate(100, false);
        int c = x.allocate(2, false);
        x.write(a, b);
        x.write(b, c);
        x.write(c, a);
        x.write(c + 1, Heaps.at(13));
        Check.same("collect()", x.collect(), 3);
        Check.blocks("all are FREE", x);
    }

    private static void noDoubtBySilentOnes() {
        GuessingHeap x = new GuessingHeap();
        int a = x.allocate(4, true);
        int b = x.allocate(8, false);
        int c = x.allocate(70, false);
        x.root(0, a);
        x.write(a, b);
        x.write(a + 1, c);
        Check.same("collect()", x.collect(), 2);
        Check.blocks("when they become FREE", x, 4);
        x.collect();
        Check.blocks("when they are FREE", x, 4);
    }

    private static void noDoubtByEmptySlots() {
        GuessingHeap x = new GuessingHeap();
        x.allocate(2, false);
        int[] kept = {96, 128, 128, 96};
        for (int r = 0; r < kept.length; r++) {
            x.root(r, x.allocate(kept[r], false));
        }
        x.allocate(32, false);
        x.root(7, 4098);
        // Block 15 becomes FREE too, and would be the room if block 0 were doubtful.
        Check.same("allocate(4)", x.allocate(4, false), 4096);
        Check.blocks("taken", x, 4, 32, 33, 33, 32, 33, 33, 33, 32, 33, 33, 33, 32, 33, 33, 0);
        Check.counts("taken", x, 5, 1);
    }
}
