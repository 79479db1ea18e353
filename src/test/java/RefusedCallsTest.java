import java.util.ArrayList;
import java.util.List;
import java.util.NoSuchElementException;

/**
 * A call that throws changes nothing: each is made on an object of its own, which is then compared with one
 * that was made in the same way without it. So no object has more than its 512 calls.
 */
public final class RefusedCallsTest {
    private interface Refused {
        void on(SnapshotShelves x);
    }

    private static final int EMPTY = 4;
    private static final int ERASER = 5;
    private static final int FULL = 6;
    private static final int BIG = 7;
    private static final int PAST = 8;
    private static final int LAST = 9;
    private static final int ENDED = 3;

    public static void main(String[] args) {
        Check.all(
                RefusedCallsTest::beginnings,
                RefusedCallsTest::wrongNumbers,
                RefusedCallsTest::wrongKeys,
                RefusedCallsTest::fullRow,
                RefusedCallsTest::nothingThere,
                RefusedCallsTest::marks,
                RefusedCallsTest::tooManyVersions,
                RefusedCallsTest::noSuchVersions);
    }

    /** 39 versions of 14 keys, TIME 4, a vacuum at 2, and six live transactions. */
    private static SnapshotShelves fullHouse() {
        SnapshotShelves x = new SnapshotShelves();
        letInTwelve(x, 1L);
        letInTwelve(x, 2L);
        int keeper = x.beginAt(1);
        x.vacuum();
        letInTwelve(x, 3L);
        x.abort(keeper);
        for (int t = EMPTY; t <= LAST; t++) {
            if (t == PAST) {
                x.beginAt(2);
            } else {
                x.begin();
            }
        }
        x.erase(ERASER, 7);
        x.write(ERASER, 14, 9L);
        for (int key = 0; key < 12; key++) {
            x.write(FULL, key, key);
        }
        for (int key = 2; key < 12; key++) {
            x.write(BIG, key, -key);
        }
        x.write(LAST, 12, 5L);
        x.write(LAST, 13, 5L);
        x.erase(LAST, 0);
        x.commit(LAST);
        x.begin();
        return x;
    }

    private static void letInTwelve(SnapshotShelves x, long value) {
        int t = x.begin();
        for (int key = 0; key < 12; key++) {
            x.write(t, key, value);
        }
        x.commit(t);
    }

    private static void unchanged(String what, Class<? extends RuntimeException> due, Refused call) {
        Check.sentence("Terms", "A call that throws changes nothing.");
        SnapshotShelves x = fullHouse();
        Check.refuses(what, due, () -> call.on(x));
        Check.answers(what + " changes nothing", state(x), state(fullHouse()));
    }

    /** All that can be seen of the object, its next number and its latest vacuum at last. */
    private static List<String> state(SnapshotShelves x) {
        List<String> rows = new ArrayList<>();
        rows.add("time " + x.time() + ", live " + x.live());
        for (int key = 0; key < 16; key++) {
            int count = x.versions(key);
            for (int k = 0; k < count; k++) {
                rows.add("key " + key + ", time " + x.timeOf(key, k) + ", " + valueOrErasure(x, key, k));
            }
        }
        for (int t = EMPTY; t <= LAST + 1; t++) {
            if (t != LAST) {
                rows.add(t + " from " + x.start(t) + " with " + x.mark(t) + ":" + Check.view(x, t));
            }
        }
        x.abort(EMPTY);
        rows.add("before the vacuum " + Check.thrownBy(() -> x.beginAt(1)));
        rows.add("number " + x.beginAt(2));
        return rows;
    }

    private static String valueOrErasure(SnapshotShelves x, int key, int k) {
        try {
            return "value " + x.valueOf(key, k);
        } catch (NoSuchElementException e) {
            return "erased";
        }
    }

    private static void beginnings() {
        unchanged("begin", UnsupportedOperationException.class, SnapshotShelves::begin);
        unchanged("beginAt TIME", UnsupportedOperationException.class, x -> x.beginAt(x.time()));
        unchanged("beginAt the vacuum", UnsupportedOperationException.class, x -> x.beginAt(2));
        unchanged("beginAt before the vacuum", IllegalArgumentException.class, x -> x.beginAt(1));
        unchanged("beginAt after TIME", IllegalArgumentException.class, x -> x.beginAt(x.time() + 1));
        unchanged("beginAt the least int", IllegalArgumentException.class, x -> x.beginAt(Integer.MIN_VALUE));
        unchanged("beginAt the greatest int", IllegalArgumentException.class, x -> x.beginAt(Integer.MAX_VALUE));
    }

    private static void wrongNumbers() {
        for (int t : new int[] {-1, 0, ENDED, LAST, LAST + 2}) {
            unchanged("read", IllegalStateException.class, x -> x.read(t, 0));
            unchanged("write", IllegalStateException.class, x -> x.write(t, 0, 1L));
            unchanged("erase", IllegalStateException.class, x -> x.erase(t, 0));
            unchanged("mark", IllegalStateException.class, x -> x.mark(t));
            unchanged("rollback", IllegalStateException.class, x -> x.rollback(t, 0));
            unchanged("next", IllegalStateException.class, x -> x.next(t, 0));
            unchanged("commit", IllegalStateException.class, x -> x.commit(t));
            unchanged("abort", IllegalStateException.class, x -> x.abort(t));
            unchanged("start", IllegalStateException.class, x -> x.start(t));
        }
    }

    private static void wrongKeys() {
        for (int key : new int[] {-1, 16}) {
            unchanged("read", IllegalArgumentException.class, x -> x.read(ERASER, key));
            unchanged("write", IllegalArgumentException.class, x -> x.write(ERASER, key, 1L));
            unchanged("erase", IllegalArgumentException.class, x -> x.erase(ERASER, key));
            unchanged("next", IllegalArgumentException.class, x -> x.next(ERASER, key));
            unchanged("versions", IllegalArgumentException.class, x -> x.versions(key));
            unchanged("timeOf", IllegalArgumentException.class, x -> x.timeOf(key, 0));
            unchanged("valueOf", IllegalArgumentException.class, x -> x.valueOf(key, 0));
        }
    }

    private static void fullRow() {
        unchanged("write", UnsupportedOperationException.class, x -> x.write(FULL, 0, 77L));
        unchanged("write of a new key", UnsupportedOperationException.class, x -> x.write(FULL, 15, 77L));
        unchanged("erase", UnsupportedOperationException.class, x -> x.erase(FULL, 0));
    }

    private static void nothingThere() {
        unchanged("read never written", NoSuchElementException.class, x -> x.read(PAST, 15));
        unchanged("read erased", NoSuchElementException.class, x -> x.read(ERASER, 7));
        unchanged("erase never written", NoSuchElementException.class, x -> x.erase(PAST, 15));
        unchanged("erase erased", NoSuchElementException.class, x -> x.erase(ERASER, 7));
        unchanged("erase erased in a version", NoSuchElementException.class, x -> x.erase(LAST + 1, 0));
    }

    private static void marks() {
        unchanged("rollback below 0", IllegalArgumentException.class, x -> x.rollback(ERASER, -1));
        unchanged("rollback above the mark", IllegalArgumentException.class, x -> x.rollback(ERASER, 3));
    }

    private static void tooManyVersions() {
        unchanged("commit of ten keys more", UnsupportedOperationException.class, x -> x.commit(BIG));
    }

    private static void noSuchVersions() {
        unchanged("timeOf", NoSuchElementException.class, x -> x.timeOf(0, 4));
        unchanged("timeOf below 0", NoSuchElementException.class, x -> x.timeOf(0, -1));
        unchanged("valueOf", NoSuchElementException.class, x -> x.valueOf(0, 4));
        unchanged("valueOf an erasure", NoSuchElementException.class, x -> x.valueOf(0, 0));
    }
}
