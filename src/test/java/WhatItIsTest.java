/** The sentences under 'What it is'. */
public final class WhatItIsTest {
    public static void main(String[] args) {
        Section s = Section.headed("What it is");
        s.test("A heap whose collector does not know which words are addresses: every word that could be one keeps "
                + "what it points at, also from inside;", "words that are meant as numbers",
                WhatItIsTest::numbersKeep);
        s.test("and blocks to which words point that can't mean it are avoided.", "for small and for large objects",
                WhatItIsTest::blocksAreAvoided);
        s.test("An object is used for at most 512 calls after it has been made; what later calls answer is free.",
                "the 512th call is answered as due, whatever came before", WhatItIsTest::the512thCall);
        s.end();
        Check.end();
    }

    private static void numbersKeep() {
        GuessingHeap x = new GuessingHeap();
        x.allocate(2, false);
        x.allocate(64, false);
        x.root(0, 4000 + 97);
        x.write(4096, 2 * 2095);
        Check.same("collect()", x.collect(), 0);
        Check.same("base of the first one", x.base(4096), 4096);
        Check.same("base of the second one", x.base(4190), 4128);
    }

    private static void blocksAreAvoided() {
        GuessingHeap x = Heaps.withDoubtful(0, 3);
        Check.same("small", x.allocate(2, false), Heaps.at(1));
        Check.same("two blocks", x.allocate(64, false), Heaps.at(4));
        Check.same("one block", x.allocate(32, false), Heaps.at(2));
        Check.same("small, another size", x.allocate(4, false), Heaps.at(6));
        Check.blocks("avoided", x, 64, 2, 32, 64, 32, 33, 4);
        Check.counts("avoided", x, 4, 1);
    }

    private static void the512thCall() {
        GuessingHeap x = new GuessingHeap();
        for (int i = 0; i < 511; i++) {
            x.collect();
        }
        Check.same("behind 511 collections: collections()", x.collections(), 511);
        GuessingHeap y = Heaps.fullAndKept();
        for (int i = 8; i < 511; i++) {
            Check.throwsKind("failure " + i, () -> y.allocate(1, false), Check.STATE);
        }
        Check.same("behind 503 failures: collections()", y.collections(), 503);
        GuessingHeap z = new GuessingHeap();
        for (int i = 0; i < 511; i++) {
            Check.same("small ones in turn, " + i, z.allocate(2, false), 4096 + 2 * (i % 256));
        }
        Check.same("the 512th small one", z.allocate(2, false), 4606);
    }
}
