import java.util.LinkedHashMap;
import java.util.Map;

/**
 * All that can be asked of a heap behind a run of calls. A heap has 512 calls, so the run is made on a new
 * one for every 256 questions, and may have 256 calls itself.
 */
final class State {
    /** Calls on a new heap. */
    interface Run {
        void play(GuessingHeap x);
    }

    /** A question about an address. */
    private interface Question {
        long ask(GuessingHeap x, int address);
    }

    /** What stands for a word that can't be read. */
    private static final long NO_WORD = Long.MIN_VALUE;

    private final Map<String, Long> answers = new LinkedHashMap<>();

    private State() {
    }

    static State behind(Run run) {
        State s = new State();
        s.askOfWhole(run);
        s.askOfWords(run, "base", (x, a) -> x.base(a));
        s.askOfWords(run, "size", (x, a) -> x.size(a));
        s.askOfWords(run, "silent", (x, a) -> x.silent(a) ? 1 : 0);
        s.askOfWords(run, "read", State::wordAt);
        return s;
    }

    private void askOfWhole(Run run) {
        GuessingHeap x = after(run);
        answers.put("objects()", (long) x.objects());
        answers.put("collections()", (long) x.collections());
        for (int r = 0; r < 8; r++) {
            answers.put("rooted(" + r + ")", (long) x.rooted(r));
        }
        for (int b = 0; b < 16; b++) {
            answers.put("block(" + b + ")", (long) x.block(b));
            answers.put("empty(" + b + ")", (long) x.empty(b));
        }
    }

    private void askOfWords(Run run, String name, Question question) {
        for (int from = 4096; from < 4608; from += 256) {
            GuessingHeap x = after(run);
            for (int a = from; a < from + 256; a++) {
                answers.put(name + "(" + a + ")", question.ask(x, a));
            }
        }
    }

    private static GuessingHeap after(Run run) {
        GuessingHeap x = new GuessingHeap();
        run.play(x);
        return x;
    }

    private static long wordAt(GuessingHeap x, int address) {
        try {
            return x.read(address);
        } catch (IllegalStateException e) {
            return NO_WORD;
        }
    }

    /** Both runs leave heaps of which every question has the same answer. */
    static void checkSame(String what, Run got, Run due) {
        Map<String, Long> dueAnswers = behind(due).answers;
        for (Map.Entry<String, Long> e : behind(got).answers.entrySet()) {
            Check.same(what + ": " + e.getKey(), e.getValue(), dueAnswers.get(e.getKey()));
        }
    }
}
