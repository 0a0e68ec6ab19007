/**
 * All promises together: long runs of calls, each made to a GuessingHeap and to the Model, whose answers
 * must be the same. The calls come from a generator of the test's own, so every run of it is the same.
 */
public final class ModelTest {
    private static final int RUNS = 1500;
    private static final int CALLS = 512;
    private static final int[] EDGES = {0, -1, 1, 4095, 4096, 4607, 4608, 7, 8, 15, 16, Integer.MAX_VALUE,
        Integer.MIN_VALUE, Integer.MIN_VALUE + 4096};
    private static final int[] SMALL = {1, 2, 3, 4, 5, 8, 9, 16};
    private static final int[] LARGE = {17, 32, 33, 64, 65, 96, 97, 128};
    private static final int[] WRONG = {0, -1, 129, Integer.MAX_VALUE, Integer.MIN_VALUE};

    private final GuessingHeap heap = new GuessingHeap();
    private final Model model = new Model();
    private final int run;
    private final int smallShare;
    private final int allocateShare;
    private final int silentShare;
    private long state;
    private String call = "";

    private ModelTest(int run) {
        this.run = run;
        state = 0x9E3779B97F4A7C15L * (run + 1);
        smallShare = below(101);
        allocateShare = 20 + below(50);
        silentShare = below(4) == 0 ? 60 : 10;
    }

    public static void main(String[] args) {
        Check.test("All promises: " + RUNS + " runs of " + CALLS + " calls against the model", ModelTest::playAll);
        Check.end();
    }

    private static void playAll() {
        for (int run = 0; run < RUNS && Check.wrongs() == 0; run++) {
            new ModelTest(run).play();
        }
    }

    private void play() {
        for (int i = 0; i < CALLS && Check.wrongs() == 0; i++) {
            call = "run " + run + ", call " + i + ": ";
            int choice = below(100);
            if (choice < allocateShare) {
                allocate();
            } else if (choice < allocateShare + 12) {
                write();
            } else if (choice < allocateShare + 16) {
                root();
            } else if (choice < allocateShare + 18) {
                collect();
            } else {
                ask();
            }
        }
    }

    private void allocate() {
        int n = below(50) == 0 ? one(WRONG) : below(100) < smallShare ? one(SMALL) : one(LARGE);
        boolean silent = below(100) < silentShare;
        int due = model.allocate(n, silent);
        int[] got = new int[1];
        int kind = Check.thrown(() -> got[0] = heap.allocate(n, silent));
        Check.same(call + "allocate(" + n + ", " + silent + ")", kind == Check.NOTHING ? got[0] : -kind, due);
    }

    private void write() {
        int address = address();
        int word = address();
        int due = model.refusal(address);
        int[] got = new int[1];
        String told = call + "write(" + address + ", " + word + ")";
        Check.same(told + " throws", Check.thrown(() -> got[0] = heap.write(address, word)), due);
        if (due == Check.NOTHING) {
            Check.same(told, got[0], model.write(address, word));
        }
    }

    private void root() {
        int r = below(30) == 0 ? one(EDGES) : below(8);
        int word = below(4) == 0 ? 0 : address();
        int due = model.root(r, word) ? Check.NOTHING : Check.INDEX;
        Check.same(call + "root(" + r + ", " + word + ") throws", Check.thrown(() -> heap.root(r, word)), due);
    }

    private void collect() {
        Check.same(call + "collect()", heap.collect(), model.collect());
    }

    private void ask() {
        int address = address();
        int b = below(30) == 0 ? one(EDGES) : below(16);
        switch (below(9)) {
            case 0 -> Check.same(call + "base(" + address + ")", heap.base(address), model.base(address));
            case 1 -> Check.same(call + "size(" + address + ")", heap.size(address), model.size(address));
            case 2 -> Check.same(call + "silent(" + address + ")", heap.silent(address), model.silent(address));
            case 3 -> Check.same(call + "block(" + b + ")", heap.block(b), model.block(b));
            case 4 -> Check.same(call + "empty(" + b + ")", heap.empty(b), model.empty(b));
            case 5 -> Check.same(call + "objects()", heap.objects(), model.objects());
            case 6 -> Check.same(call + "collections()", heap.collections(), model.collections());
            case 7 -> rooted();
            default -> read(address);
        }
    }

    private void rooted() {
        int r = below(10) == 0 ? one(EDGES) : below(8);
        int[] got = new int[1];
        int kind = Check.thrown(() -> got[0] = heap.rooted(r));
        Check.same(call + "rooted(" + r + ") throws", kind, model.hasRoot(r) ? Check.NOTHING : Check.INDEX);
        if (model.hasRoot(r)) {
            Check.same(call + "rooted(" + r + ")", got[0], model.rooted(r));
        }
    }

    private void read(int address) {
        int due = model.refusal(address);
        int[] got = new int[1];
        Check.same(call + "read(" + address + ") throws", Check.thrown(() -> got[0] = heap.read(address)), due);
        if (due == Check.NOTHING) {
            Check.same(call + "read(" + address + ")", got[0], model.read(address));
        }
    }

    /** Mostly of an object's word, often of another word of the heap, seldom of none. */
    private int address() {
        int choice = below(100);
        if (choice < 70) {
            return model.someAddress(below(1 << 20));
        }
        return choice < 92 ? 4096 + below(512) : one(EDGES);
    }

    private int one(int[] row) {
        return row[below(row.length)];
    }

    private int below(int bound) {
        state = state * 6364136223846793005L + 1442695040888963407L;
        return (int) ((state >>> 33) % bound);
    }
}
