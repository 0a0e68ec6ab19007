/** The sentences of promise 8: base. */
public final class Promise08BaseTest {
    private static final String PLACE = "The place of the object in which the word at an address is;";
    private static final String NONE = "NONE if it is in none,";

    public static void main(String[] args) {
        Section s = Section.ofPromise(8);
        s.test(PLACE, "every word, small ones side by side", Promise08BaseTest::smallSideBySide);
        s.test(PLACE, "every word, large ones side by side", Promise08BaseTest::largeSideBySide);
        s.test(NONE, "FREE block, EMPTY slot", Promise08BaseTest::inNone);
        s.test(NONE, "given up, and its neighbour not", Promise08BaseTest::givenUp);
        s.test("or no address of the heap.", "4095, 4608, and numbers that wrap around", Promise08BaseTest::noAddress);
        s.end();
        Check.end();
    }

    private static void smallSideBySide() {
        for (int size : Heaps.SLOTS) {
            GuessingHeap x = new GuessingHeap();
            for (int i = 0; i < 64 / size; i++) {
                x.allocate(size, false);
            }
            for (int a = 4096; a < 4160; a++) {
                Check.same("slots of " + size + ": base(" + a + ")", x.base(a), a - a % size);
            }
        }
    }

    private static void largeSideBySide() {
        GuessingHeap x = new GuessingHeap();
        int[] sizes = {64, 33, 32, 128, 17};
        int[] places = {4096, 4160, 4224, 4256, 4384};
        for (int n : sizes) {
            x.allocate(n, false);
        }
        int i = 0;
        for (int a = 4096; a < 4416; a++) {
            i = i + 1 < places.length && a == places[i + 1] ? i + 1 : i;
            Check.same("base(" + a + ")", x.base(a), places[i]);
        }
        Check.same("base(4416)", x.base(4416), GuessingHeap.NONE);
    }

    private static void inNone() {
        GuessingHeap x = new GuessingHeap();
        Check.same("FREE: base(4096)", x.base(4096), GuessingHeap.NONE);
        Check.same("FREE: base(4607)", x.base(4607), GuessingHeap.NONE);
        x.allocate(8, false);
        Check.same("EMPTY: base(4104)", x.base(4104), GuessingHeap.NONE);
        Check.same("EMPTY: base(4127)", x.base(4127), GuessingHeap.NONE);
    }

    private static void givenUp() {
        GuessingHeap x = new GuessingHeap();
        x.allocate(2, false);
        x.allocate(2, false);
        x.allocate(70, false);
        x.root(0, 4096);
        x.collect();
        for (int a : new int[] {4098, 4099, 4128, 4128 + 40, 4128 + 95}) {
            Check.same("given up: base(" + a + ")", x.base(a), GuessingHeap.NONE);
        }
        Check.same("kept: base(4097)", x.base(4097), 4096);
    }

    private static void noAddress() {
        GuessingHeap x = Heaps.full();
        for (int a : Heaps.NO_ADDRESSES) {
            Check.same("base(" + a + ")", x.base(a), GuessingHeap.NONE);
        }
    }
}
