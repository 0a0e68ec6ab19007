import java.util.ArrayList;
import java.util.HashSet;
import java.util.List;
import java.util.Map;
import java.util.Set;
import java.util.TreeMap;

/**
 * The document's terms told once more, as slowly and as plainly as can be, and held otherwise than
 * in GuessingHeap: a list of objects, a map of the words that are not 0, sets of marks.
 */
final class Model {
    /** A small or large object. */
    private static final class Thing {
        final int place;
        final int size;
        final boolean silent;

        Thing(int place, int size, boolean silent) {
            this.place = place;
            this.size = size;
            this.silent = silent;
        }

        boolean has(int address) {
            return address >= place && address < place + size;
        }
    }

    private static final int NO_ROOM = -7;

    private final int[] roots = new int[8];
    private final int[] slotSizes = new int[16];
    private final Set<Integer> doubtful = new HashSet<>();
    private final Map<Integer, Integer> words = new TreeMap<>();
    private List<Thing> things = new ArrayList<>();
    private int collections = 0;

    /** The place, or less than 0 the exception's number as Check has it. */
    int allocate(int n, boolean silent) {
        if (n < 1 || n > 128) {
            return -Check.ARGUMENT;
        }
        int size = n <= 2 ? 2 : n <= 4 ? 4 : n <= 8 ? 8 : n <= 16 ? 16 : (n + 31) / 32 * 32;
        int place = room(size, doubtful);
        if (place == NO_ROOM) {
            collect();
            place = room(size, doubtful);
        }
        if (place == NO_ROOM) {
            place = room(size, Set.of());
        }
        if (place == NO_ROOM) {
            return -Check.STATE;
        }
        things.add(new Thing(place, size, silent));
        for (int a = place; a < place + size; a++) {
            doubtful.remove(blockOf(a));
            if (size <= 16) {
                slotSizes[blockOf(a)] = size;
            }
        }
        return place;
    }

    private int room(int size, Set<Integer> avoided) {
        if (size <= 16) {
            for (int place = 4096; place < 4608; place += size) {
                if (slotSizes[blockOf(place)] == size && at(place) == null) {
                    return place;
                }
            }
        }
        int count = Math.max(1, size / 32);
        for (int first = 0; first + count <= 16; first++) {
            boolean fits = true;
            for (int b = first; b < first + count; b++) {
                fits = fits && isFree(b) && !avoided.contains(b);
            }
            if (fits) {
                return 4096 + 32 * first;
            }
        }
        return NO_ROOM;
    }

    boolean root(int r, int word) {
        if (r < 0 || r > 7) {
            return false;
        }
        roots[r] = word;
        return true;
    }

    boolean hasRoot(int r) {
        return r >= 0 && r <= 7;
    }

    int rooted(int r) {
        return roots[r];
    }

    /** What read() and write() throw, as Check has it. */
    int refusal(int address) {
        if (address < 4096 || address > 4607) {
            return Check.INDEX;
        }
        return at(address) == null ? Check.STATE : Check.NOTHING;
    }

    int read(int address) {
        return words.getOrDefault(address, 0);
    }

    int write(int address, int word) {
        Integer before = words.put(address, word);
        return before == null ? 0 : before;
    }

    int collect() {
        collections++;
        doubtful.clear();
        Set<Thing> marked = new HashSet<>();
        for (int word : roots) {
            lookAt(word, marked);
        }
        int before = -1;
        while (before != marked.size()) {
            before = marked.size();
            lookAtAll(marked);
        }
        List<Thing> kept = new ArrayList<>();
        for (Thing t : things) {
            if (marked.contains(t)) {
                kept.add(t);
            }
        }
        int given = things.size() - kept.size();
        things = kept;
        words.keySet().removeIf(a -> at(a) == null);
        for (int b = 0; b < 16; b++) {
            if (objectsIn(b) == 0) {
                slotSizes[b] = 0;
            }
        }
        return given;
    }

    private void lookAtAll(Set<Thing> marked) {
        for (Thing t : things) {
            if (marked.contains(t) && !t.silent) {
                for (int a = t.place; a < t.place + t.size; a++) {
                    lookAt(read(a), marked);
                }
            }
        }
    }

    private void lookAt(int word, Set<Thing> marked) {
        Thing t = at(word);
        if (t != null) {
            marked.add(t);
        } else if (word >= 4096 && word <= 4607 && isFree(blockOf(word))) {
            doubtful.add(blockOf(word));
        }
    }

    int base(int address) {
        Thing t = at(address);
        return t == null ? -1 : t.place;
    }

    int size(int address) {
        Thing t = at(address);
        return t == null ? 0 : t.size;
    }

    boolean silent(int address) {
        Thing t = at(address);
        return t != null && t.silent;
    }

    int block(int b) {
        if (b < 0 || b > 15) {
            return -1;
        }
        int more = doubtful.contains(b) ? 64 : 0;
        Thing t = at(4096 + 32 * b);
        if (t != null && t.size >= 32) {
            return more + (t.place == 4096 + 32 * b ? 32 : 33);
        }
        return more + slotSizes[b];
    }

    int empty(int b) {
        if (b < 0 || b > 15 || slotSizes[b] == 0) {
            return 0;
        }
        return 32 / slotSizes[b] - objectsIn(b);
    }

    int objects() {
        return things.size();
    }

    int collections() {
        return collections;
    }

    /** An address of the heap of some object, if there is one, for calls that are to mean something. */
    int someAddress(int choice) {
        if (things.isEmpty()) {
            return 4096 + Math.floorMod(choice, 512);
        }
        Thing t = things.get(Math.floorMod(choice, things.size()));
        return t.place + Math.floorMod(choice >> 9, t.size);
    }

    private static int blockOf(int address) {
        return (address - 4096) / 32;
    }

    private boolean isFree(int b) {
        return slotSizes[b] == 0 && at(4096 + 32 * b) == null;
    }

    private int objectsIn(int b) {
        int count = 0;
        for (Thing t : things) {
            if (blockOf(t.place) == b) {
                count++;
            }
        }
        return count;
    }

    private Thing at(int address) {
        for (Thing t : things) {
            if (t.has(address)) {
                return t;
            }
        }
        return null;
    }
}
