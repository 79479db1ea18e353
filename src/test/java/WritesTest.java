import java.util.NoSuchElementException;

/** Promises 4 to 9: read, write, erase, mark, rollback and next. */
public final class WritesTest {
    private static final long[] VALUES =
            {0L, -1L, 1L, Long.MIN_VALUE, Long.MAX_VALUE, 1L << 32, 1L << 40, Integer.MIN_VALUE - 1L};

    public static void main(String[] args) {
        Check.all(
                WritesTest::readsEveryLong,
                WritesTest::readsItsSnapshot,
                WritesTest::readsNothing,
                WritesTest::writesAddUp,
                WritesTest::twelveWritesOfOneKey,
                WritesTest::twelveWritesOfTwelveKeys,
                WritesTest::erases,
                WritesTest::erasesNothing,
                WritesTest::erasesInAFullRow,
                WritesTest::marks,
                WritesTest::rollsBack,
                WritesTest::rollsBackToAllAndToNone,
                WritesTest::rollbackBounds,
                WritesTest::nextKeys,
                WritesTest::nextIsThisOneOrGreater,
                WritesTest::nextIsNone);
    }

    private static void readsEveryLong() {
        Check.sentence("Promise 4", "The value that the transaction finds.");
        SnapshotShelves x = new SnapshotShelves();
        int t = x.begin();
        for (int key = 0; key < VALUES.length; key++) {
            x.write(t, key, VALUES[key]);
            Check.answers("its own", x.read(t, key), VALUES[key]);
        }
        x.commit(t);
        int reader = x.begin();
        for (int key = 0; key < VALUES.length; key++) {
            Check.answers("of a version", x.read(reader, key), VALUES[key]);
        }
    }

    private static void readsItsSnapshot() {
        Check.sentence("Promise 4", "The value that the transaction finds.");
        SnapshotShelves x = new SnapshotShelves();
        Check.put(x, 3, 30L);
        int old = x.begin();
        Check.put(x, 3, 31L);
        Check.put(x, 4, 40L);
        int young = x.begin();
        Check.remove(x, 3);
        int last = x.begin();
        Check.answers("the old one", Check.view(x, old), " 3=30");
        Check.answers("the young one", Check.view(x, young), " 3=31 4=40");
        Check.answers("the last one", Check.view(x, last), " 4=40");
        x.write(young, 4, 41L);
        x.erase(young, 3);
        Check.answers("own writes hide versions", Check.view(x, young), " 4=41");
        Check.answers("but for nobody else", Check.view(x, old), " 3=30");
    }

    private static void readsNothing() {
        Check.sentence("Promise 4", "NoSuchElementException if there is nothing.");
        SnapshotShelves x = new SnapshotShelves();
        int first = x.begin();
        Check.refuses("never written", NoSuchElementException.class, () -> x.read(first, 0));
        Check.put(x, 0, 1L);
        Check.refuses("let in after START", NoSuchElementException.class, () -> x.read(first, 0));
        int second = x.begin();
        x.write(second, 1, 1L);
        Check.refuses("written by another", NoSuchElementException.class, () -> x.read(first, 1));
        x.erase(second, 0);
        Check.refuses("its own erasure", NoSuchElementException.class, () -> x.read(second, 0));
        x.commit(second);
        int third = x.begin();
        Check.refuses("an erased version", NoSuchElementException.class, () -> x.read(third, 0));
        x.write(third, 2, 1L);
        x.rollback(third, 0);
        Check.refuses("written and taken back", NoSuchElementException.class, () -> x.read(third, 2));
    }

    private static void writesAddUp() {
        Check.sentence("Promise 5", "Adds a write of the key and the value to the transaction's row.");
        SnapshotShelves x = new SnapshotShelves();
        int t = x.begin();
        int other = x.begin();
        x.write(t, 0, 10L);
        x.write(t, 15, 20L);
        x.write(t, 0, 11L);
        Check.answers("of both keys", Check.view(x, t), " 0=11 15=20");
        Check.answers("each counts", x.mark(t), 3);
        Check.answers("not in the other's row", x.mark(other), 0);
        Check.answers("no version yet", Check.allVersions(x), 0);
        x.write(t, 0, 11L);
        Check.answers("the same once more counts too", x.mark(t), 4);
    }

    private static void twelveWritesOfOneKey() {
        Check.sentence("Promise 5", "UnsupportedOperationException if it has 12.");
        SnapshotShelves x = new SnapshotShelves();
        int t = x.begin();
        for (int i = 0; i < 12; i++) {
            long value = i;
            Check.accepts("write with " + i, () -> x.write(t, 5, value));
        }
        Check.refuses("write with 12", UnsupportedOperationException.class, () -> x.write(t, 5, 12L));
        Check.refuses("of another key too", UnsupportedOperationException.class, () -> x.write(t, 6, 12L));
        Check.answers("the twelfth is read", x.read(t, 5), 11L);
        x.rollback(t, 11);
        Check.accepts("write with 11 again", () -> x.write(t, 6, 13L));
        Check.refuses("write with 12 again", UnsupportedOperationException.class, () -> x.write(t, 6, 14L));
        Check.answers("what it reads", Check.view(x, t), " 5=10 6=13");
    }

    private static void twelveWritesOfTwelveKeys() {
        Check.sentence("Promise 5", "UnsupportedOperationException if it has 12.");
        SnapshotShelves x = new SnapshotShelves();
        int t = x.begin();
        for (int key = 0; key < 12; key++) {
            x.write(t, key, key);
        }
        Check.refuses("a thirteenth key", UnsupportedOperationException.class, () -> x.write(t, 12, 1L));
        Check.refuses("a key that it has", UnsupportedOperationException.class, () -> x.write(t, 0, 1L));
        Check.answers("all twelve are let in", x.commit(t), 1);
        Check.answers("versions", Check.allVersions(x), 12);
    }

    private static void erases() {
        Check.sentence("Promise 6", "Adds an erasure of the key to the transaction's row.");
        SnapshotShelves x = new SnapshotShelves();
        Check.putAll(x, 8, 9, 1L);
        int t = x.begin();
        int other = x.begin();
        x.erase(t, 8);
        Check.answers("of the key alone", Check.view(x, t), " 9=1");
        Check.answers("it counts as a write", x.mark(t), 1);
        Check.answers("not in the other's row", Check.view(x, other), " 8=1 9=1");
        Check.answers("the version is there", x.versions(8), 1);
        x.write(t, 3, 5L);
        x.erase(t, 3);
        Check.answers("of its own write", Check.view(x, t), " 9=1");
        Check.answers("both count", x.mark(t), 3);
    }

    private static void erasesNothing() {
        Check.sentence("Promise 6", "NoSuchElementException if the transaction finds nothing there");
        SnapshotShelves x = new SnapshotShelves();
        int first = x.begin();
        Check.refuses("never written", NoSuchElementException.class, () -> x.erase(first, 8));
        Check.put(x, 8, 1L);
        Check.refuses("let in after START", NoSuchElementException.class, () -> x.erase(first, 8));
        int second = x.begin();
        x.write(second, 9, 5L);
        Check.refuses("written by another", NoSuchElementException.class, () -> x.erase(first, 9));
        x.erase(second, 8);
        Check.refuses("erased by itself", NoSuchElementException.class, () -> x.erase(second, 8));
        x.erase(second, 9);
        Check.refuses("written and erased by itself", NoSuchElementException.class, () -> x.erase(second, 9));
        x.commit(second);
        int third = x.begin();
        Check.refuses("an erased version", NoSuchElementException.class, () -> x.erase(third, 8));
        Check.accepts("there before it was erased", () -> x.erase(x.beginAt(1), 8));
        x.write(third, 8, 2L);
        Check.accepts("written again", () -> x.erase(third, 8));
    }

    private static void erasesInAFullRow() {
        Check.sentence("Promise 6", "UnsupportedOperationException if it has 12 writes.");
        SnapshotShelves x = new SnapshotShelves();
        Check.putAll(x, 0, 11, 1L);
        Check.put(x, 12, 1L);
        int t = x.begin();
        for (int i = 0; i < 12; i++) {
            int key = i;
            Check.accepts("erase with " + i, () -> x.erase(t, key));
        }
        Check.refuses("erase with 12", UnsupportedOperationException.class, () -> x.erase(t, 12));
        x.rollback(t, 11);
        Check.accepts("erase with 11 again", () -> x.erase(t, 12));
        Check.refuses("erase with 12 again", UnsupportedOperationException.class, () -> x.erase(t, 11));
        Check.answers("what it reads", Check.view(x, t), " 11=1");
    }

    private static void marks() {
        Check.sentence("Promise 7", "How many writes the transaction has.");
        SnapshotShelves x = new SnapshotShelves();
        int t = x.begin();
        Check.answers("none", x.mark(t), 0);
        for (int i = 0; i < 12; i++) {
            if (i % 2 == 0) {
                x.write(t, 4, i);
            } else {
                x.erase(t, 4);
            }
            Check.answers("writes and erasures of one key", x.mark(t), i + 1);
        }
        Check.thrownBy(() -> x.write(t, 4, 0L));
        Check.answers("after a refused one", x.mark(t), 12);
        x.rollback(t, 7);
        Check.answers("after a rollback", x.mark(t), 7);
    }

    private static void rollsBack() {
        Check.sentence("Promise 8", "The transaction has the first n of its writes alone.");
        SnapshotShelves x = new SnapshotShelves();
        Check.put(x, 1, 100L);
        int t = x.begin();
        x.write(t, 1, 101L);
        x.write(t, 2, 200L);
        int mark = x.mark(t);
        x.erase(t, 1);
        x.write(t, 2, 201L);
        x.write(t, 3, 300L);
        Check.answers("before", Check.view(x, t), " 2=201 3=300");
        x.rollback(t, 4);
        Check.answers("one back", Check.view(x, t), " 2=201");
        x.rollback(t, mark);
        Check.answers("at the mark", Check.view(x, t), " 1=101 2=200");
        Check.answers("mark", x.mark(t), 2);
        x.write(t, 4, 400L);
        Check.answers("what was taken back does not return", Check.view(x, t), " 1=101 2=200 4=400");
        Check.answers("commit", x.commit(t), 2);
        Check.answers("nor is it let in", Check.view(x, x.begin()), " 1=101 2=200 4=400");
        Check.answers("no version of it", x.versions(3), 0);
    }

    private static void rollsBackToAllAndToNone() {
        Check.sentence("Promise 8", "The transaction has the first n of its writes alone.");
        SnapshotShelves x = new SnapshotShelves();
        Check.put(x, 1, 100L);
        int t = x.begin();
        int other = x.begin();
        for (int i = 0; i < 12; i++) {
            x.write(t, i, i);
            x.write(other, 0, i);
        }
        x.rollback(t, 12);
        Check.answers("to all twelve", x.mark(t), 12);
        x.rollback(t, 0);
        Check.answers("to none", Check.view(x, t), " 1=100");
        Check.answers("the other's are there", x.mark(other), 12);
        x.rollback(t, 0);
        Check.answers("from none to none", x.mark(t), 0);
        Check.answers("a commit of none", x.commit(t), 1);
    }

    private static void rollbackBounds() {
        Check.sentence("Promise 8", "IllegalArgumentException if n is not 0 .. mark(t).");
        SnapshotShelves x = new SnapshotShelves();
        int t = x.begin();
        for (int writes = 0; writes <= 12; writes++) {
            int most = writes;
            Check.refuses("one more", IllegalArgumentException.class, () -> x.rollback(t, most + 1));
            Check.refuses("-1", IllegalArgumentException.class, () -> x.rollback(t, -1));
            Check.accepts("all", () -> x.rollback(t, most));
            if (writes < 12) {
                x.write(t, 0, writes);
            }
        }
        for (int n : new int[] {13, 256, Integer.MIN_VALUE, Integer.MAX_VALUE}) {
            Check.refuses("rollback " + n, IllegalArgumentException.class, () -> x.rollback(t, n));
        }
        Check.accepts("to 5", () -> x.rollback(t, 5));
        Check.refuses("forward to 6", IllegalArgumentException.class, () -> x.rollback(t, 6));
        Check.accepts("to 0", () -> x.rollback(t, 0));
        Check.refuses("forward to 1", IllegalArgumentException.class, () -> x.rollback(t, 1));
    }

    private static void nextKeys() {
        Check.sentence("Promise 9", "at which the transaction finds something");
        SnapshotShelves x = new SnapshotShelves();
        Check.put(x, 0, 1L);
        Check.put(x, 6, 1L);
        Check.put(x, 15, 1L);
        int old = x.begin();
        Check.remove(x, 6);
        int t = x.begin();
        x.erase(t, 0);
        x.write(t, 9, 0L);
        int[] due = {9, 9, 9, 9, 9, 9, 9, 9, 9, 9, 15, 15, 15, 15, 15, 15};
        int[] oldDue = {0, 6, 6, 6, 6, 6, 6, 15, 15, 15, 15, 15, 15, 15, 15, 15};
        for (int key = 0; key < 16; key++) {
            Check.answers("next " + key, x.next(t, key), due[key]);
            Check.answers("old next " + key, x.next(old, key), oldDue[key]);
        }
    }

    private static void nextIsThisOneOrGreater() {
        Check.sentence("Promise 9", "The least key, this one or a greater one");
        SnapshotShelves x = new SnapshotShelves();
        int t = x.begin();
        for (int key = 15; key >= 4; key--) {
            x.write(t, key, key);
            Check.answers("this one", x.next(t, key), key);
            Check.answers("the one above it", x.next(t, key - 1), key);
            Check.answers("the least of all", x.next(t, 0), key);
        }
    }

    private static void nextIsNone() {
        Check.sentence("Promise 9", "NONE if there is none.");
        SnapshotShelves x = new SnapshotShelves();
        int first = x.begin();
        for (int key = 0; key < 16; key++) {
            Check.answers("on empty shelves", x.next(first, key), SnapshotShelves.NONE);
        }
        Check.put(x, 14, 1L);
        Check.answers("let in after START", x.next(first, 0), SnapshotShelves.NONE);
        int second = x.begin();
        Check.answers("behind the greatest", x.next(second, 15), SnapshotShelves.NONE);
        Check.answers("at the greatest", x.next(second, 14), 14);
        x.erase(second, 14);
        Check.answers("its own erasure alone", x.next(second, 0), SnapshotShelves.NONE);
        x.commit(second);
        Check.answers("an erased version alone", x.next(x.begin(), 0), SnapshotShelves.NONE);
    }
}
