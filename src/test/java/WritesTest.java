import java.util.NoSuchElementException;

/** Promises 4 to 9: read, write, erase, mark, rollback and next. */
public final class WritesTest {
    private static final int[] WRONG_KEYS = {-1, 16, Integer.MIN_VALUE, Integer.MAX_VALUE};

    public static void main(String[] args) {
        readsOwnWrites();
        readsItsSnapshot();
        extremeValues();
        twelveWrites();
        eraseFindsOrRefuses();
        eraseOrderOfExceptions();
        markAndRollback();
        rollbackBounds();
        nextKeys();
        wrongNumbers();
        wrongKeys();
        slotsAreCleanAgain();
        Check.end();
    }

    private static void readsOwnWrites() {
        SnapshotShelves x = new SnapshotShelves();
        int a = x.begin();
        int b = x.begin();
        Check.refuses("nothing yet", NoSuchElementException.class, () -> x.read(a, 0));
        x.write(a, 0, 10L);
        Check.answers("own write", x.read(a, 0), 10L);
        x.write(a, 15, 20L);
        x.write(a, 0, 11L);
        Check.answers("the latest own write", x.read(a, 0), 11L);
        Check.answers("another key", x.read(a, 15), 20L);
        Check.refuses("the other one's writes are not seen", NoSuchElementException.class, () -> x.read(b, 0));
        x.write(b, 0, 99L);
        Check.answers("each its own", x.read(a, 0), 11L);
        Check.answers("each its own", x.read(b, 0), 99L);
        x.erase(a, 0);
        Check.refuses("own erasure", NoSuchElementException.class, () -> x.read(a, 0));
        x.write(a, 0, 12L);
        Check.answers("written again", x.read(a, 0), 12L);
    }

    private static void readsItsSnapshot() {
        SnapshotShelves x = new SnapshotShelves();
        Check.put(x, 3, 30L);
        int old = x.begin();
        Check.put(x, 3, 31L);
        Check.put(x, 4, 40L);
        int young = x.begin();
        Check.remove(x, 3);
        int last = x.begin();
        Check.answers("old view", Check.view(x, old), " 3=30");
        Check.answers("young view", Check.view(x, young), " 3=31 4=40");
        Check.answers("last view", Check.view(x, last), " 4=40");
        x.write(young, 4, 41L);
        x.erase(young, 3);
        Check.answers("own writes hide versions", Check.view(x, young), " 4=41");
        Check.answers("old view stays", Check.view(x, old), " 3=30");
    }

    private static void extremeValues() {
        SnapshotShelves x = new SnapshotShelves();
        long[] values = {0L, -1L, 1L, Long.MIN_VALUE, Long.MAX_VALUE, 1L << 40};
        int t = x.begin();
        for (int key = 0; key < values.length; key++) {
            x.write(t, key, values[key]);
            Check.answers("own value", x.read(t, key), values[key]);
        }
        x.commit(t);
        int reader = x.begin();
        for (int key = 0; key < values.length; key++) {
            Check.answers("value let in", x.read(reader, key), values[key]);
            Check.answers("valueOf", x.valueOf(key, 0), values[key]);
        }
    }

    private static void twelveWrites() {
        SnapshotShelves x = new SnapshotShelves();
        int t = x.begin();
        for (int i = 0; i < 12; i++) {
            Check.answers("mark", x.mark(t), i);
            x.write(t, 5, i);
        }
        Check.answers("mark", x.mark(t), 12);
        Check.refuses("thirteenth write", UnsupportedOperationException.class, () -> x.write(t, 5, 12L));
        Check.refuses("thirteenth write, an erasure", UnsupportedOperationException.class, () -> x.erase(t, 5));
        Check.answers("the twelfth is read", x.read(t, 5), 11L);
        x.rollback(t, 11);
        x.erase(t, 5);
        Check.answers("erasures are writes", x.mark(t), 12);
        Check.refuses("full by an erasure", UnsupportedOperationException.class, () -> x.write(t, 0, 1L));
        int other = x.begin();
        x.write(other, 5, 1L);
        Check.answers("each has its own twelve", x.mark(other), 1);
    }

    private static void eraseFindsOrRefuses() {
        SnapshotShelves x = new SnapshotShelves();
        Check.put(x, 8, 1L);
        int old = x.begin();
        Check.remove(x, 8);
        int young = x.begin();
        Check.refuses("never there", NoSuchElementException.class, () -> x.erase(old, 9));
        Check.refuses("erased before", NoSuchElementException.class, () -> x.erase(young, 8));
        x.erase(old, 8);
        Check.answers("mark", x.mark(old), 1);
        Check.refuses("erased by itself", NoSuchElementException.class, () -> x.erase(old, 8));
        x.write(young, 9, 5L);
        x.erase(young, 9);
        Check.answers("own write erased", Check.view(x, young), "");
        Check.answers("mark", x.mark(young), 2);
        Check.refuses("erased twice", NoSuchElementException.class, () -> x.erase(young, 9));
    }

    private static void eraseOrderOfExceptions() {
        SnapshotShelves x = new SnapshotShelves();
        int t = x.begin();
        for (int i = 0; i < 12; i++) {
            x.write(t, 0, i);
        }
        Check.refuses("nothing there before too many", NoSuchElementException.class, () -> x.erase(t, 1));
        Check.refuses("a wrong key before too many", IllegalArgumentException.class, () -> x.erase(t, 16));
        Check.refuses("a wrong key before too many", IllegalArgumentException.class, () -> x.write(t, 16, 0L));
        Check.refuses("too many", UnsupportedOperationException.class, () -> x.erase(t, 0));
    }

    private static void markAndRollback() {
        SnapshotShelves x = new SnapshotShelves();
        Check.put(x, 1, 100L);
        int t = x.begin();
        x.write(t, 1, 101L);
        x.write(t, 2, 200L);
        int mark = x.mark(t);
        Check.answers("mark", mark, 2);
        x.erase(t, 1);
        x.write(t, 2, 201L);
        x.write(t, 3, 300L);
        Check.answers("before", Check.view(x, t), " 2=201 3=300");
        x.rollback(t, 5);
        Check.answers("rollback to now", Check.view(x, t), " 2=201 3=300");
        x.rollback(t, 4);
        Check.answers("one back", Check.view(x, t), " 2=201");
        x.rollback(t, mark);
        Check.answers("at the mark", Check.view(x, t), " 1=101 2=200");
        Check.answers("mark", x.mark(t), 2);
        Check.refuses("not forward", IllegalArgumentException.class, () -> x.rollback(t, 3));
        x.write(t, 4, 400L);
        Check.answers("writes go on", Check.view(x, t), " 1=101 2=200 4=400");
        x.rollback(t, 0);
        Check.answers("all gone", Check.view(x, t), " 1=100");
        Check.answers("a commit of none", x.commit(t), 1);
        Check.answers("no version", x.versions(2), 0);
    }

    private static void rollbackBounds() {
        SnapshotShelves x = new SnapshotShelves();
        int t = x.begin();
        x.rollback(t, 0);
        Check.refuses("more than there are", IllegalArgumentException.class, () -> x.rollback(t, 1));
        x.write(t, 0, 1L);
        for (int n : new int[] {-1, 2, 12, Integer.MIN_VALUE, Integer.MAX_VALUE}) {
            Check.refuses("rollback " + n, IllegalArgumentException.class, () -> x.rollback(t, n));
        }
    }

    private static void nextKeys() {
        SnapshotShelves x = new SnapshotShelves();
        Check.put(x, 0, 1L);
        Check.put(x, 6, 1L);
        Check.put(x, 15, 1L);
        int old = x.begin();
        Check.remove(x, 6);
        int t = x.begin();
        x.erase(t, 0);
        x.write(t, 9, 1L);
        int[] due = {9, 9, 9, 9, 9, 9, 9, 9, 9, 9, 15, 15, 15, 15, 15, 15};
        int[] oldDue = {0, 6, 6, 6, 6, 6, 6, 15, 15, 15, 15, 15, 15, 15, 15, 15};
        for (int key = 0; key < 16; key++) {
            Check.answers("next " + key, x.next(t, key), due[key]);
            Check.answers("old next " + key, x.next(old, key), oldDue[key]);
        }
        x.erase(t, 15);
        Check.answers("none behind", x.next(t, 10), SnapshotShelves.NONE);
        Check.answers("none at the last", x.next(t, 15), SnapshotShelves.NONE);
        Check.answers("next changes nothing", x.mark(t), 3);
    }

    private static void wrongNumbers() {
        SnapshotShelves x = new SnapshotShelves();
        x.begin();
        x.begin();
        x.write(0, 0, 1L);
        x.commit(0);
        for (int t : new int[] {-1, 0, 2, Integer.MIN_VALUE, Integer.MAX_VALUE}) {
            for (int key : new int[] {0, 16}) {
                Check.refuses("read " + t, IllegalStateException.class, () -> x.read(t, key));
                Check.refuses("write " + t, IllegalStateException.class, () -> x.write(t, key, 1L));
                Check.refuses("erase " + t, IllegalStateException.class, () -> x.erase(t, key));
                Check.refuses("next " + t, IllegalStateException.class, () -> x.next(t, key));
            }
            Check.refuses("mark " + t, IllegalStateException.class, () -> x.mark(t));
            Check.refuses("rollback " + t, IllegalStateException.class, () -> x.rollback(t, 0));
            Check.refuses("rollback -1 " + t, IllegalStateException.class, () -> x.rollback(t, -1));
        }
    }

    private static void wrongKeys() {
        SnapshotShelves x = new SnapshotShelves();
        int t = x.begin();
        for (int key : WRONG_KEYS) {
            Check.refuses("read " + key, IllegalArgumentException.class, () -> x.read(t, key));
            Check.refuses("write " + key, IllegalArgumentException.class, () -> x.write(t, key, 1L));
            Check.refuses("erase " + key, IllegalArgumentException.class, () -> x.erase(t, key));
            Check.refuses("next " + key, IllegalArgumentException.class, () -> x.next(t, key));
        }
    }

    private static void slotsAreCleanAgain() {
        SnapshotShelves x = new SnapshotShelves();
        for (int round = 0; round < 8; round++) {
            int t = x.begin();
            Check.answers("no writes at first", x.mark(t), 0);
            Check.answers("nothing at first", x.next(t, 0), SnapshotShelves.NONE);
            x.write(t, round, 1L);
            x.abort(t);
        }
    }
}
