/** Promises 8, 9 and 10: base, size and silent. */
public final class AskTest {
    private static final int[] NO_ADDRESSES = {4095, 4608, 0, -1, 5, Integer.MAX_VALUE, Integer.MIN_VALUE,
        Integer.MIN_VALUE + 4100};

    public static void main(String[] args) {
        everyWordOfAnObject();
        slotsAndTheirNeighbours();
        noAddresses();
        givenUp();
        largeNeighbours();
        Check.end();
    }

    private static void everyWordOfAnObject() {
        int[] sizes = {2, 4, 8, 16, 32, 64, 96, 128};
        for (int n : sizes) {
            GuessingHeap x = new GuessingHeap();
            x.allocate(17, false);
            x.allocate(n, true);
            for (int a = 4128; a < 4128 + n; a++) {
                Check.same("base(" + a + "), n " + n, x.base(a), 4128);
                Check.same("size(" + a + "), n " + n, x.size(a), n);
                Check.same("silent(" + a + "), n " + n, x.silent(a), true);
            }
            Check.same("base before it, n " + n, x.base(4127), 4096);
            Check.same("silent before it, n " + n, x.silent(4127), false);
            Check.same("base behind it, n " + n, x.base(4128 + n), GuessingHeap.NONE);
            Check.same("size behind it, n " + n, x.size(4128 + n), 0);
            Check.same("silent behind it, n " + n, x.silent(4128 + n), false);
        }
    }

    private static void slotsAndTheirNeighbours() {
        GuessingHeap x = new GuessingHeap();
        for (int i = 0; i < 8; i++) {
            x.allocate(4, i % 2 == 1);
        }
        for (int a = 4096; a < 4128; a++) {
            Check.same("slots: base(" + a + ")", x.base(a), a - a % 4);
            Check.same("slots: size(" + a + ")", x.size(a), 4);
            Check.same("slots: silent(" + a + ")", x.silent(a), a / 4 % 2 == 1);
        }
    }

    private static void noAddresses() {
        GuessingHeap x = new GuessingHeap();
        for (int i = 0; i < 4; i++) {
            x.allocate(128, true);
        }
        for (int a : NO_ADDRESSES) {
            Check.same("base(" + a + ")", x.base(a), GuessingHeap.NONE);
            Check.same("size(" + a + ")", x.size(a), 0);
            Check.same("silent(" + a + ")", x.silent(a), false);
        }
        Check.same("base(4607)", x.base(4607), 4480);
        Check.same("silent(4607)", x.silent(4607), true);
    }

    private static void givenUp() {
        GuessingHeap x = new GuessingHeap();
        x.allocate(2, true);
        x.allocate(2, true);
        x.allocate(70, true);
        x.root(0, 4096);
        x.collect();
        int[] gone = {4098, 4099, 4128, 4128 + 40, 4128 + 95};
        for (int a : gone) {
            Check.same("given up: base(" + a + ")", x.base(a), GuessingHeap.NONE);
            Check.same("given up: size(" + a + ")", x.size(a), 0);
            Check.same("given up: silent(" + a + ")", x.silent(a), false);
        }
        Check.same("kept: base(4097)", x.base(4097), 4096);
        Check.same("kept: silent(4097)", x.silent(4097), true);
    }

    private static void largeNeighbours() {
        GuessingHeap x = new GuessingHeap();
        x.allocate(64, false);
        x.allocate(33, true);
        x.allocate(32, false);
        x.allocate(32, true);
        int[] places = {4096, 4096, 4160, 4160, 4224, 4256};
        int[] sizes = {64, 64, 64, 64, 32, 32};
        boolean[] silents = {false, false, true, true, false, true};
        for (int b = 0; b < 6; b++) {
            int a = 4096 + 32 * b + 9;
            Check.same("large ones: base(" + a + ")", x.base(a), places[b]);
            Check.same("large ones: size(" + a + ")", x.size(a), sizes[b]);
            Check.same("large ones: silent(" + a + ")", x.silent(a), silents[b]);
        }
    }
}
