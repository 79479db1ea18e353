import java.util.ArrayList;
import java.util.HashSet;
import java.util.LinkedHashMap;
import java.util.List;
import java.util.Map;
import java.util.NoSuchElementException;
import java.util.Set;
import java.util.TreeMap;

/** The document once more, in the words of the Java library and with other structures than the program's. */
final class Model {
    private static final class Transaction {
        final int start;
        List<Map.Entry<Integer, Long>> writes = new ArrayList<>();

        Transaction(int start) {
            this.start = start;
        }

        /** The latest write of each key; null is an erasure. */
        Map<Integer, Long> changes() {
            Map<Integer, Long> changes = new LinkedHashMap<>();
            for (Map.Entry<Integer, Long> w : writes) {
                changes.put(w.getKey(), w.getValue());
            }
            return changes;
        }
    }

    /** For each key its versions by time; null is an erasure. */
    private final List<TreeMap<Integer, Long>> shelves = new ArrayList<>();
    private final TreeMap<Integer, Transaction> live = new TreeMap<>();
    private int time = 0;
    private int floor = 0;
    private int numbers = 0;

    Model() {
        for (int key = 0; key < 16; key++) {
            shelves.add(new TreeMap<>());
        }
    }

    int begin() {
        return beginAt(time);
    }

    int beginAt(int start) {
        require(start >= floor && start <= time, new IllegalArgumentException());
        require(live.size() < 6, new UnsupportedOperationException());
        live.put(numbers, new Transaction(start));
        return numbers++;
    }

    long read(int t, int key) {
        Long found = found(transaction(t), shelf(key), key);
        require(found != null, new NoSuchElementException());
        return found;
    }

    void write(int t, int key, long value) {
        Transaction x = transaction(t);
        shelf(key);
        add(x, key, value);
    }

    void erase(int t, int key) {
        read(t, key);
        add(transaction(t), key, null);
    }

    int mark(int t) {
        return transaction(t).writes.size();
    }

    void rollback(int t, int n) {
        Transaction x = transaction(t);
        require(n >= 0 && n <= x.writes.size(), new IllegalArgumentException());
        x.writes = new ArrayList<>(x.writes.subList(0, n));
    }

    int next(int t, int key) {
        Transaction x = transaction(t);
        shelf(key);
        for (int k = key; k < 16; k++) {
            if (found(x, shelves.get(k), k) != null) {
                return k;
            }
        }
        return -1;
    }

    int commit(int t) {
        Transaction x = transaction(t);
        Map<Integer, Long> changes = x.changes();
        boolean conflict = false;
        for (int key : changes.keySet()) {
            conflict |= !shelves.get(key).tailMap(x.start, false).isEmpty();
        }
        require(changes.isEmpty() || conflict || allVersions() + changes.size() <= 48,
                new UnsupportedOperationException());
        live.remove(t);
        if (conflict) {
            return -1;
        }
        if (!changes.isEmpty()) {
            time++;
            changes.forEach((key, value) -> shelves.get(key).put(time, value));
        }
        return time;
    }

    void abort(int t) {
        transaction(t);
        live.remove(t);
    }

    int vacuum() {
        int before = allVersions();
        for (TreeMap<Integer, Long> shelf : shelves) {
            Set<Integer> kept = new HashSet<>();
            kept.add(shelf.floorKey(Integer.MAX_VALUE));
            for (Transaction x : live.values()) {
                kept.add(shelf.floorKey(x.start));
            }
            shelf.keySet().retainAll(kept);
        }
        floor = time;
        return before - allVersions();
    }

    int time() {
        return time;
    }

    int live() {
        return live.size();
    }

    int start(int t) {
        return transaction(t).start;
    }

    int versions(int key) {
        return shelf(key).size();
    }

    int timeOf(int key, int k) {
        List<Integer> times = new ArrayList<>(shelf(key).descendingKeySet());
        require(k >= 0 && k < times.size(), new NoSuchElementException());
        return times.get(k);
    }

    long valueOf(int key, int k) {
        Long value = shelf(key).get(timeOf(key, k));
        require(value != null, new NoSuchElementException());
        return value;
    }

    List<Integer> liveNumbers() {
        return new ArrayList<>(live.keySet());
    }

    private static void require(boolean right, RuntimeException otherwise) {
        if (!right) {
            throw otherwise;
        }
    }

    private Transaction transaction(int t) {
        Transaction x = live.get(t);
        require(x != null, new IllegalStateException());
        return x;
    }

    private TreeMap<Integer, Long> shelf(int key) {
        require(key >= 0 && key < 16, new IllegalArgumentException());
        return shelves.get(key);
    }

    private static Long found(Transaction x, TreeMap<Integer, Long> shelf, int key) {
        Map<Integer, Long> changes = x.changes();
        if (changes.containsKey(key)) {
            return changes.get(key);
        }
        Map.Entry<Integer, Long> version = shelf.floorEntry(x.start);
        return version == null ? null : version.getValue();
    }

    private static void add(Transaction x, int key, Long value) {
        require(x.writes.size() < 12, new UnsupportedOperationException());
        x.writes.add(new java.util.AbstractMap.SimpleEntry<>(key, value));
    }

    private int allVersions() {
        int count = 0;
        for (TreeMap<Integer, Long> shelf : shelves) {
            count += shelf.size();
        }
        return count;
    }
}
