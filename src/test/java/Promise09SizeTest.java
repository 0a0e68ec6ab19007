/** The sentences of promise 9: size. */
public final class Promise09SizeTest {
    private static final String SIZE = "How many words the object has in which the word at an address is;";
    private static final String NONE = "0 if it is in none,";

    public static void main(String[] args) {
        Section s = Section.ofPromise(9);
        s.test(SIZE, "asked of every word", Promise09SizeTest::everyWord);
        s.test(SIZE, "objects of other sizes side by side", Promise09SizeTest::sideBySide);
        s.test(NONE, "FREE block, EMPTY slot", Promise09SizeTest::inNone);
        s.test(NONE, "given up, and another size where it was", Promise09SizeTest::givenUp);
        s.test("or no address of the heap.", "4095, 4608, and numbers that wrap around", Promise09SizeTest::noAddress);
        s.test("(All of its slot or blocks, also more than were asked for.)", "every n from 1 to 128",
                Promise09SizeTest::moreThanAskedFor);
        s.end();
        Check.end();
    }

    private static void everyWord() {
        for (int n : Heaps.SIZES) {
            GuessingHeap x = new GuessingHeap();
            x.allocate(n, false);
            for (int a = 4096; a < 4096 + n; a++) {
                Check.same("size(" + a + "), n " + n, x.size(a), n);
            }
            Check.same("the word behind, n " + n, x.size(4096 + n), 0);
        }
    }

    private static void sideBySide() {
        GuessingHeap x = new GuessingHeap();
        int[] sizes = {64, 16, 32, 2, 128};
        for (int n : sizes) {
            x.allocate(n, false);
        }
        int[] ends = {4159, 4160, 4175, 4192, 4223, 4224, 4225, 4256, 4383};
        int[] due = {64, 16, 16, 32, 32, 2, 2, 128, 128};
        for (int i = 0; i < ends.length; i++) {
            Check.same("size(" + ends[i] + ")", x.size(ends[i]), due[i]);
        }
    }

    private static void inNone() {
        GuessingHeap x = new GuessingHeap();
        Check.same("FREE: size(4096)", x.size(4096), 0);
        Check.same("FREE: size(4607)", x.size(4607), 0);
        x.allocate(8, false);
        Check.same("EMPTY: size(4104)", x.size(4104), 0);
        Check.same("EMPTY: size(4127)", x.size(4127), 0);
    }

    private static void givenUp() {
        GuessingHeap x = new GuessingHeap();
        x.allocate(128, false);
        x.collect();
        Check.same("given up: size(4096)", x.size(4096), 0);
        Check.same("given up: size(4223)", x.size(4223), 0);
        x.allocate(4, false);
        Check.same("a small one there: size(4096)", x.size(4096), 4);
        Check.same("a small one there: size(4100)", x.size(4100), 0);
    }

    private static void noAddress() {
        GuessingHeap x = Heaps.full();
        for (int a : Heaps.NO_ADDRESSES) {
            Check.same("size(" + a + ")", x.size(a), 0);
        }
        Check.same("size(4607)", x.size(4607), 128);
    }

    private static void moreThanAskedFor() {
        for (int n = 1; n <= 128; n++) {
            int due = 128;
            for (int i = Heaps.SIZES.length - 1; i >= 0; i--) {
                due = Heaps.SIZES[i] >= n ? Heaps.SIZES[i] : due;
            }
            GuessingHeap x = new GuessingHeap();
            x.allocate(n, true);
            Check.same("first word, n " + n, x.size(4096), due);
            Check.same("last word, n " + n, x.size(4096 + due - 1), due);
        }
    }
}
