import java.util.NoSuchElementException;

/** A store of sixteen keys that keeps earlier versions for the transactions that still read them. */
public final class SnapshotShelves {
    public static final int CONFLICT = -1;
    public static final int NONE = -1;

    private static final int KEYS = 16;
    private static final int MOST_VERSIONS = 48;
    private static final int MOST_LIVE = 6;
    private static final int MOST_WRITES = 12;
    private static final int NOWHERE = -1;

    private final Row shelf = new Row(MOST_VERSIONS);
    private final Transaction[] slots = new Transaction[MOST_LIVE];
    private int now = 0;
    private int lastVacuum = 0;
    private int begun = 0;

    public SnapshotShelves() {
        for (int i = 0; i < slots.length; i++) {
            slots[i] = new Transaction();
        }
    }

    public int begin() throws UnsupportedOperationException {
        return enter(now);
    }

    public int beginAt(int time) throws IllegalArgumentException, UnsupportedOperationException {
        if (time < lastVacuum || time > now) {
            throw new IllegalArgumentException("no such time can be read");
        }
        return enter(time);
    }

    public long read(int t, int key)
            throws IllegalStateException, IllegalArgumentException, NoSuchElementException {
        Transaction reader = liveTransaction(t);
        checkKey(key);
        Row row = rowToRead(reader, key);
        int place = row.something(key, reader.start);
        if (place == NOWHERE) {
            throw new NoSuchElementException("nothing is at this key");
        }
        return row.values[place];
    }

    public void write(int t, int key, long value)
            throws IllegalStateException, IllegalArgumentException, UnsupportedOperationException {
        Transaction writer = liveTransaction(t);
        checkKey(key);
        addWrite(writer, key, value, false);
    }

    public void erase(int t, int key)
            throws IllegalStateException, IllegalArgumentException, NoSuchElementException,
            UnsupportedOperationException {
        Transaction writer = liveTransaction(t);
        checkKey(key);
        if (!findsSomething(writer, key)) {
            throw new NoSuchElementException("nothing is at this key");
        }
        addWrite(writer, key, 0L, true);
    }

    public int mark(int t) throws IllegalStateException {
        return liveTransaction(t).writes.size;
    }

    public void rollback(int t, int n) throws IllegalStateException, IllegalArgumentException {
        Row writes = liveTransaction(t).writes;
        if (n < 0 || n > writes.size) {
            throw new IllegalArgumentException("there is no such mark");
        }
        writes.size = n;
    }

    public int next(int t, int key) throws IllegalStateException, IllegalArgumentException {
        Transaction reader = liveTransaction(t);
        checkKey(key);
        for (int k = key; k < KEYS; k++) {
            if (findsSomething(reader, k)) {
                return k;
            }
        }
        return NONE;
    }

    public int commit(int t) throws IllegalStateException, UnsupportedOperationException {
        Transaction writer = liveTransaction(t);
        if (writer.writes.size == 0) {
            writer.isLive = false;
            return now;
        }
        if (isOutrun(writer)) {
            writer.isLive = false;
            return CONFLICT;
        }
        if (shelf.size + keysWritten(writer) > MOST_VERSIONS) {
            throw new UnsupportedOperationException("there would be too many versions");
        }
        now++;
        shelveWrites(writer);
        writer.isLive = false;
        return now;
    }

    public void abort(int t) throws IllegalStateException {
        liveTransaction(t).isLive = false;
    }

    public int vacuum() {
        int swept = 0;
        // A version that is swept is found by nobody, so the sweep of one changes no answer for the others.
        for (int place = shelf.size - 1; place >= 0; place--) {
            if (!isNeeded(place)) {
                shelf.takeAway(place);
                swept++;
            }
        }
        lastVacuum = now;
        return swept;
    }

    public int time() {
        return now;
    }

    public int live() {
        int count = 0;
        for (int i = 0; i < slots.length; i++) {
            if (slots[i].isLive) {
                count++;
            }
        }
        return count;
    }

    public int start(int t) throws IllegalStateException {
        return liveTransaction(t).start;
    }

    public int versions(int key) throws IllegalArgumentException {
        checkKey(key);
        int count = 0;
        for (int place = 0; place < shelf.size; place++) {
            if (shelf.keys[place] == key) {
                count++;
            }
        }
        return count;
    }

    public int timeOf(int key, int k) throws IllegalArgumentException, NoSuchElementException {
        checkKey(key);
        int place = shelf.fromNewest(key, k);
        if (place == NOWHERE) {
            throw new NoSuchElementException("there is no such version");
        }
        return shelf.times[place];
    }

    public long valueOf(int key, int k) throws IllegalArgumentException, NoSuchElementException {
        checkKey(key);
        int place = shelf.fromNewest(key, k);
        if (place == NOWHERE || shelf.erasures[place]) {
            throw new NoSuchElementException("there is no such version, or it is an erasure");
        }
        return shelf.values[place];
    }

    private int enter(int start) {
        for (int i = 0; i < slots.length; i++) {
            if (!slots[i].isLive) {
                slots[i].reopen(begun, start);
                begun++;
                return slots[i].number;
            }
        }
        throw new UnsupportedOperationException("too many transactions are live");
    }

    private Transaction liveTransaction(int t) {
        for (int i = 0; i < slots.length; i++) {
            if (slots[i].isLive && slots[i].number == t) {
                return slots[i];
            }
        }
        throw new IllegalStateException("no live transaction has this number");
    }

    private static void checkKey(int key) {
        if (key < 0 || key >= KEYS) {
            throw new IllegalArgumentException("keys are 0 to 15");
        }
    }

    private static void addWrite(Transaction writer, int key, long value, boolean erasure) {
        // A write bears the START as its time, so that the search up to START serves both kinds of row.
        if (!writer.writes.append(key, writer.start, value, erasure)) {
            throw new UnsupportedOperationException("the transaction has too many writes");
        }
    }

    /** A transaction's own write of a key, an erasure too, hides every version of it. */
    private Row rowToRead(Transaction reader, int key) {
        return reader.writes.latest(key, reader.start) == NOWHERE ? shelf : reader.writes;
    }

    private boolean findsSomething(Transaction reader, int key) {
        return rowToRead(reader, key).something(key, reader.start) != NOWHERE;
    }

    /** Whether somebody else has changed, since the transaction's START, a key that it writes. */
    private boolean isOutrun(Transaction writer) {
        for (int place = 0; place < shelf.size; place++) {
            if (shelf.times[place] > writer.start
                    && writer.writes.latest(shelf.keys[place], writer.start) != NOWHERE) {
                return true;
            }
        }
        return false;
    }

    private static int keysWritten(Transaction writer) {
        int count = 0;
        for (int i = 0; i < writer.writes.size; i++) {
            if (writer.isLastOfItsKey(i)) {
                count++;
            }
        }
        return count;
    }

    private void shelveWrites(Transaction writer) {
        Row writes = writer.writes;
        for (int i = 0; i < writes.size; i++) {
            if (writer.isLastOfItsKey(i)) {
                shelf.append(writes.keys[i], now, writes.values[i], writes.erasures[i]);
            }
        }
    }

    private boolean isNeeded(int place) {
        int key = shelf.keys[place];
        if (shelf.latest(key, now) == place) {
            return true;
        }
        for (int i = 0; i < slots.length; i++) {
            if (slots[i].isLive && shelf.latest(key, slots[i].start) == place) {
                return true;
            }
        }
        return false;
    }

    /** One of the six places for live transactions; it is used again when its transaction has ended. */
    private static final class Transaction {
        final Row writes = new Row(MOST_WRITES);
        boolean isLive = false;
        int number = 0;
        int start = 0;

        void reopen(int newNumber, int newStart) {
            isLive = true;
            number = newNumber;
            start = newStart;
            writes.size = 0;
        }

        boolean isLastOfItsKey(int place) {
            return writes.latest(writes.keys[place], start) == place;
        }
    }

    /** Versions or writes in the order in which they came, so that their times never fall. */
    private static final class Row {
        final int[] keys;
        final int[] times;
        final long[] values;
        final boolean[] erasures;
        int size = 0;

        Row(int room) {
            keys = new int[room];
            times = new int[room];
            values = new long[room];
            erasures = new boolean[room];
        }

        /** Answers whether there was room. */
        boolean append(int key, int time, long value, boolean erasure) {
            if (size >= keys.length) {
                return false;
            }
            keys[size] = key;
            times[size] = time;
            values[size] = value;
            erasures[size] = erasure;
            size++;
            return true;
        }

        void takeAway(int place) {
            for (int i = place + 1; i < size; i++) {
                keys[i - 1] = keys[i];
                times[i - 1] = times[i];
                values[i - 1] = values[i];
                erasures[i - 1] = erasures[i];
            }
            size--;
        }

        /** The place of the last entry of the key up to this time, be it an erasure or not. */
        int latest(int key, int time) {
            for (int place = size - 1; place >= 0; place--) {
                if (keys[place] == key && times[place] <= time) {
                    return place;
                }
            }
            return NOWHERE;
        }

        /** The same place, but NOWHERE if an erasure is there. */
        int something(int key, int time) {
            int place = latest(key, time);
            return place != NOWHERE && erasures[place] ? NOWHERE : place;
        }

        /** The place of entry k of the key, counted from the last one, which is entry 0. */
        int fromNewest(int key, int k) {
            int newer = 0;
            for (int place = size - 1; place >= 0; place--) {
                if (keys[place] == key) {
                    if (newer == k) {
                        return place;
                    }
                    newer++;
                }
            }
            return NOWHERE;
        }
    }
}
