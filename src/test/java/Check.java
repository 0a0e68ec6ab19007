/** What the tests share: it counts and prints the answers that are not as due. */
final class Check {
    static final int NOTHING = 0;
    static final int ARGUMENT = 1;
    static final int STATE = 2;
    static final int INDEX = 3;
    static final int OTHER = 4;

    private static int wrong = 0;

    private Check() {
    }

    /** A call that may throw. */
    interface Call {
        void run();
    }

    /** Runs one test and prints its name; a test that throws has failed, and the others still run. */
    static void test(String name, Call call) {
        int before = wrong;
        try {
            call.run();
        } catch (RuntimeException | StackOverflowError e) {
            fault("it threw " + e);
        }
        System.out.println((wrong == before ? "passed: " : "FAILED: ") + name);
    }

    static void fault(String what) {
        wrong++;
        System.out.println("    " + what);
    }

    static void same(String what, long got, long due) {
        if (got != due) {
            fault(what + " answered " + got + ", due is " + due);
        }
    }

    static void same(String what, boolean got, boolean due) {
        same(what, got ? 1 : 0, due ? 1 : 0);
    }

    static void same(String what, String got, String due) {
        if (!got.equals(due)) {
            fault(what + " is " + got + ", due is " + due);
        }
    }

    /** Blocks 0, 1 .. are as due, and those behind the last one that is told are FREE. */
    static void blocks(String what, GuessingHeap x, int... due) {
        for (int b = 0; b < 16; b++) {
            same(what + ": block(" + b + ")", x.block(b), b < due.length ? due[b] : 0);
        }
    }

    static void counts(String what, GuessingHeap x, int objects, int collections) {
        same(what + ": objects()", x.objects(), objects);
        same(what + ": collections()", x.collections(), collections);
    }

    static void throwsKind(String what, Call call, int due) {
        same(what + " throws (1 IllegalArgument, 2 IllegalState, 3 IndexOutOfBounds, 4 another, 0 nothing)",
                thrown(call), due);
    }

    static int thrown(Call call) {
        try {
            call.run();
            return NOTHING;
        } catch (RuntimeException e) {
            return kindOf(e);
        }
    }

    // The classes themselves, not what extends them: an ArrayIndexOutOfBoundsException is a fault.
    private static int kindOf(RuntimeException e) {
        Class<?> c = e.getClass();
        if (c == IllegalArgumentException.class) {
            return ARGUMENT;
        }
        if (c == IllegalStateException.class) {
            return STATE;
        }
        return c == IndexOutOfBoundsException.class ? INDEX : OTHER;
    }

    /** How many answers were wrong up to now. */
    static int wrongs() {
        return wrong;
    }

    /** The last call of every test. */
    static void end() {
        System.out.println(wrong == 0 ? "all answers are as due" : wrong + " answers are not as due");
        if (wrong != 0) {
            System.exit(1);
        }
    }
}
