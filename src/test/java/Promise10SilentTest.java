/** The sentence of promise 10: silent. */
public final class Promise10SilentTest {
    private static final String WHETHER = "Whether the word at an address is in an object that is silent.";

    public static void main(String[] args) {
        Section s = Section.ofPromise(10);
        s.test(WHETHER, "every word of silent ones and others side by side", Promise10SilentTest::sideBySide);
        s.test(WHETHER, "the words before and behind a silent one", Promise10SilentTest::beside);
        s.test(WHETHER, "not in a FREE block nor in an EMPTY slot", Promise10SilentTest::inNone);
        s.test(WHETHER, "not where a silent one was given up", Promise10SilentTest::givenUp);
        s.test(WHETHER, "not at 4095, 4608, or numbers that wrap around", Promise10SilentTest::noAddress);
        s.test(WHETHER, "still when it was collected", Promise10SilentTest::stillSilent);
        s.end();
        Check.end();
    }

    private static void sideBySide() {
        GuessingHeap x = new GuessingHeap();
        for (int i = 0; i < 8; i++) {
            x.allocate(4, i % 2 == 1);
        }
        for (int a = 4096; a < 4128; a++) {
            Check.same("silent(" + a + ")", x.silent(a), a / 4 % 2 == 1);
        }
    }

    private static void beside() {
        for (int n : Heaps.SIZES) {
            GuessingHeap x = new GuessingHeap();
            x.allocate(17, false);
            x.allocate(n, true);
            x.allocate(n, false);
            Check.same("before, n " + n, x.silent(4127), false);
            Check.same("first word, n " + n, x.silent(4128), true);
            Check.same("last word, n " + n, x.silent(4127 + n), true);
            Check.same("behind, n " + n, x.silent(4128 + n), false);
        }
    }

    private static void inNone() {
        GuessingHeap x = new GuessingHeap();
        Check.same("FREE: silent(4096)", x.silent(4096), false);
        x.allocate(16, true);
        Check.same("EMPTY: silent(4112)", x.silent(4112), false);
        Check.same("EMPTY: silent(4127)", x.silent(4127), false);
        Check.same("FREE: silent(4128)", x.silent(4128), false);
    }

    private static void givenUp() {
        for (int n : Heaps.SIZES) {
            GuessingHeap x = new GuessingHeap();
            x.allocate(n, true);
            x.collect();
            Check.same("given up: first word, n " + n, x.silent(4096), false);
            Check.same("given up: last word, n " + n, x.silent(4095 + n), false);
            x.allocate(n, false);
            Check.same("another one there, n " + n, x.silent(4096), false);
        }
    }

    private static void noAddress() {
        GuessingHeap x = new GuessingHeap();
        for (int i = 0; i < 4; i++) {
            x.allocate(128, true);
        }
        for (int a : Heaps.NO_ADDRESSES) {
            Check.same("silent(" + a + ")", x.silent(a), false);
        }
        Check.same("silent(4096)", x.silent(4096), true);
        Check.same("silent(4607)", x.silent(4607), true);
    }

    private static void stillSilent() {
        GuessingHeap x = new GuessingHeap();
        x.allocate(2, true);
        x.allocate(2, false);
        x.root(0, 4096);
        x.root(1, 4098);
        x.collect();
        Check.same("silent(4097)", x.silent(4097), true);
        Check.same("silent(4099)", x.silent(4099), false);
    }
}
