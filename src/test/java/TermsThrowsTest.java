/** The terms of calls that throw. */
public final class TermsThrowsTest {
    private static final String NOTHING = "A call that throws changes nothing,";
    private static final String BUT = "but allocate(), which may have collected.";
    private static final String FIRST = "What a call says first is tested first.";

    public static void main(String[] args) {
        Section s = Section.ofTerms("A call that throws", "promises 2 to 6");
        s.test(NOTHING, "allocate(n) for n too small and too large", TermsThrowsTest::refusedAllocate);
        s.test(NOTHING, "root() and rooted() where there is no root", TermsThrowsTest::refusedRoots);
        s.test(NOTHING, "read() and write() at no address", TermsThrowsTest::refusedAddresses);
        s.test(NOTHING, "read() and write() at a word in no object", TermsThrowsTest::refusedWords);
        s.test(BUT, "one that fails leaves what collect() leaves", TermsThrowsTest::failedAllocate);
        s.test(FIRST, "allocate(): n is tested before room is looked for", TermsThrowsTest::wrongNumberInAFullHeap);
        s.test(FIRST, "read() and write(): the address is tested before its object",
                TermsThrowsTest::noAddressInNoObject);
        s.end();
        Check.end();
    }

    /** Objects of all kinds, EMPTY slots, doubt, and what the next collection is to change. */
    private static void prepare(GuessingHeap x) {
        x.root(0, x.allocate(3, false));
        x.root(1, x.allocate(16, true));
        x.root(2, x.allocate(70, false));
        x.allocate(3, false);
        x.root(3, x.allocate(128, true));
        x.root(4, x.allocate(128, false));
        x.root(5, Heaps.at(13));
        x.write(4096, 5);
        x.write(Heaps.at(2) + 95, -6);
        x.collect();
        x.allocate(8, false);
        x.write(Heaps.at(14), 4607);
        x.root(7, Heaps.at(15) + 31);
    }

    private static void checkNothingChanged(String what, int due, State.Run refused) {
        State.checkSame(what, x -> {
            prepare(x);
            Check.throwsKind(what, () -> refused.play(x), due);
        }, TermsThrowsTest::prepare);
    }

    private static void refusedAllocate() {
        for (int n : new int[] {0, -1, 129, Integer.MIN_VALUE, Integer.MAX_VALUE}) {
            checkNothingChanged("allocate(" + n + ", false)", Check.ARGUMENT, x -> x.allocate(n, false));
            checkNothingChanged("allocate(" + n + ", true)", Check.ARGUMENT, x -> x.allocate(n, true));
        }
    }

    private static void refusedRoots() {
        for (int r : Heaps.NO_ROOTS) {
            checkNothingChanged("root(" + r + ", 4200)", Check.INDEX, x -> x.root(r, 4200));
            checkNothingChanged("rooted(" + r + ")", Check.INDEX, x -> x.rooted(r));
        }
    }

    private static void refusedAddresses() {
        for (int a : Heaps.NO_ADDRESSES) {
            checkNothingChanged("read(" + a + ")", Check.INDEX, x -> x.read(a));
            checkNothingChanged("write(" + a + ", 4200)", Check.INDEX, x -> x.write(a, 4200));
        }
    }

    private static void refusedWords() {
        int emptySlot = 4100;
        int freeBlock = Heaps.at(15);
        int doubtfulBlock = Heaps.at(13) + 1;
        for (int a : new int[] {emptySlot, freeBlock, doubtfulBlock}) {
            checkNothingChanged("read(" + a + ")", Check.STATE, x -> x.read(a));
            checkNothingChanged("write(" + a + ", 4200)", Check.STATE, x -> x.write(a, 4200));
        }
    }

    private static void failedAllocate() {
        for (int n : new int[] {97, 128}) {
            State.checkSame("allocate(" + n + ")", x -> {
                prepare(x);
                Check.throwsKind("allocate(" + n + ")", () -> x.allocate(n, false), Check.STATE);
            }, x -> {
                prepare(x);
                x.collect();
            });
        }
    }

    private static void wrongNumberInAFullHeap() {
        for (int n : new int[] {0, -1, 129, Integer.MIN_VALUE, Integer.MAX_VALUE}) {
            GuessingHeap kept = Heaps.fullAndKept();
            Check.throwsKind("kept: allocate(" + n + ")", () -> kept.allocate(n, false), Check.ARGUMENT);
            Check.counts("kept: allocate(" + n + ")", kept, 4, 0);
            GuessingHeap loose = Heaps.full();
            Check.throwsKind("loose: allocate(" + n + ")", () -> loose.allocate(n, true), Check.ARGUMENT);
            Check.counts("loose: allocate(" + n + ")", loose, 4, 0);
        }
    }

    private static void noAddressInNoObject() {
        GuessingHeap x = new GuessingHeap();
        for (int a : Heaps.NO_ADDRESSES) {
            Check.throwsKind("read(" + a + ")", () -> x.read(a), Check.INDEX);
            Check.throwsKind("write(" + a + ", 0)", () -> x.write(a, 0), Check.INDEX);
        }
    }
}
