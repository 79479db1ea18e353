import java.util.ArrayList;
import java.util.List;
import java.util.NoSuchElementException;

/** "What it is" and "Terms": the limits, what a transaction finds, and which exception comes first. */
public final class TermsTest {
    /** Beside the next ones on either side: what a narrower type or a mask would take for a right key. */
    private static final int[] WRONG_KEYS =
            {-1, 16, 17, 31, -16, -15, 128, 256, 1 << 16, 1 << 28, Integer.MIN_VALUE, Integer.MAX_VALUE};

    /** What a narrower type would take for number 1. */
    private static final int[] NUMBERS_LIKE_1 = {-1, -2, 1 + 256, 1 + (1 << 16), 1 - 256, Integer.MIN_VALUE + 1};

    public static void main(String[] args) {
        Check.all(
                TermsTest::numbersThrough512Calls,
                TermsTest::timeThrough512Calls,
                TermsTest::oldStateThrough512Calls,
                TermsTest::keys,
                TermsTest::fortyEightInAll,
                TermsTest::timeCountsThoseLetIn,
                TermsTest::timeIsZeroAtFirst,
                TermsTest::liveUntilTheEnd,
                TermsTest::atMostSixLive,
                TermsTest::numbersInOrder,
                TermsTest::twelveWrites,
                TermsTest::ownWriteIsFoundFirst,
                TermsTest::versionOfGreatestTimeUpToStart,
                TermsTest::nothing,
                TermsTest::orderOfExceptions,
                TermsTest::orderOfExceptionsInFullRow,
                TermsTest::wrongNumbers,
                TermsTest::wrongKeys);
    }

    private static void callsAtMost() {
        Check.sentence("What it is", "An object is used for at most 512 calls after it has been made");
    }

    private static void numbersThrough512Calls() {
        callsAtMost();
        SnapshotShelves x = new SnapshotShelves();
        for (int number = 0; number < 256; number++) {
            int due = number;
            Check.answers("call " + (2 * number + 1), x.begin(), number);
            Check.accepts("call " + (2 * number + 2), () -> x.abort(due));
        }
    }

    private static void timeThrough512Calls() {
        callsAtMost();
        SnapshotShelves x = new SnapshotShelves();
        int calls = 0;
        for (int time = 1; time <= 169; time++) {
            Check.answers("time " + time, Check.put(x, time % 4, time), time);
            calls += 3;
            if (time % 40 == 0) {
                Check.answers("swept at " + time, x.vacuum(), time == 40 ? 36 : 40);
                calls++;
            }
        }
        Check.answers("calls before the last one", calls, 511);
        Check.answers("the last call", x.time(), 169);
    }

    private static void oldStateThrough512Calls() {
        callsAtMost();
        SnapshotShelves x = new SnapshotShelves();
        Check.put(x, 3, 33L);
        int old = x.begin();
        for (int i = 0; i < 46; i++) {
            Check.put(x, 3, i);
        }
        for (int calls = 142; calls < 512; calls++) {
            Check.answers("call " + (calls + 1), x.read(old, 3), 33L);
        }
    }

    private static void keys() {
        Check.sentence("Terms", "KEYS are 0 .. 15.");
        for (int key = 0; key < 16; key++) {
            SnapshotShelves x = new SnapshotShelves();
            Check.answers("let in " + key, Check.put(x, key, key + 100L), 1);
            Check.answers("versions " + key, x.versions(key), 1);
            Check.answers("timeOf " + key, x.timeOf(key, 0), 1);
            Check.answers("valueOf " + key, x.valueOf(key, 0), key + 100L);
            int t = x.begin();
            Check.answers("the only one is " + key, Check.view(x, t), " " + key + "=" + (key + 100));
            Check.answers("next from 0", x.next(t, 0), key);
            Check.answers("next from " + key, x.next(t, key), key);
            x.erase(t, key);
            Check.answers("erased " + key, x.commit(t), 2);
            Check.answers("all versions", Check.allVersions(x), 2);
        }
    }

    private static void fortyEightInAll() {
        Check.sentence("Terms", "there are at most 48 versions in all");
        SnapshotShelves oneKey = new SnapshotShelves();
        for (int time = 1; time <= 48; time++) {
            Check.answers("of one key", Check.put(oneKey, 15, -time), time);
        }
        Check.answers("of one key", oneKey.versions(15), 48);
        Check.answers("the oldest", oneKey.timeOf(15, 47), 1);
        Check.answers("the oldest", oneKey.valueOf(15, 47), -1L);
        Check.refuses("49 of one key", UnsupportedOperationException.class, () -> Check.put(oneKey, 15, 0L));
        Check.refuses("49 of two keys", UnsupportedOperationException.class, () -> Check.put(oneKey, 0, 0L));
        Check.refuses("an erasure as 49th", UnsupportedOperationException.class, () -> Check.remove(oneKey, 15));

        SnapshotShelves allKeys = new SnapshotShelves();
        for (int round = 0; round < 3; round++) {
            Check.putAll(allKeys, 0, 7, round);
            Check.putAll(allKeys, 8, 15, round);
        }
        Check.answers("three of each key", Check.allVersions(allKeys), 48);
        Check.refuses("49 of all keys", UnsupportedOperationException.class, () -> Check.put(allKeys, 4, 0L));
    }

    private static void timeCountsThoseLetIn() {
        Check.sentence("Terms", "TIME is the number of transactions that were let in with at least one write");
        SnapshotShelves x = new SnapshotShelves();
        x.commit(x.begin());
        Check.answers("after one without writes", x.time(), 0);
        int conflict = x.begin();
        int aborted = x.begin();
        int open = x.begin();
        x.write(conflict, 2, 1L);
        x.write(aborted, 3, 1L);
        x.write(open, 4, 1L);
        Check.putAll(x, 2, 12, 1L);
        Check.answers("one of many writes counts once", x.time(), 1);
        x.commit(conflict);
        Check.answers("after a conflict", x.time(), 1);
        x.abort(aborted);
        Check.answers("after an abort", x.time(), 1);
        x.vacuum();
        Check.answers("after a vacuum", x.time(), 1);
        Check.remove(x, 2);
        Check.answers("after an erasure alone", x.time(), 2);
        x.beginAt(1);
        Check.answers("after a beginning in the past", x.time(), 2);
        x.rollback(open, 0);
        x.commit(open);
        Check.answers("after one that took back all its writes", x.time(), 2);
    }

    private static void timeIsZeroAtFirst() {
        Check.sentence("Terms", "it is 0 at first");
        SnapshotShelves x = new SnapshotShelves();
        Check.answers("time", x.time(), 0);
        Check.answers("start", x.start(x.begin()), 0);
        Check.answers("commit without writes", x.commit(0), 0);
        Check.answers("the first let in", Check.put(x, 0, 0L), 1);
    }

    private static void liveUntilTheEnd() {
        Check.sentence("Terms", "A TRANSACTION is LIVE from its beginning to its commit or abort");
        SnapshotShelves x = new SnapshotShelves();
        int empty = x.begin();
        int first = x.begin();
        int second = x.beginAt(0);
        int aborted = x.begin();
        x.write(first, 0, 1L);
        x.write(second, 0, 2L);
        Check.answers("all four", x.live(), 4);
        int[] order = {empty, first, second, aborted};
        for (int i = 0; i < order.length; i++) {
            int t = order[i];
            Check.accepts("live before its end", () -> x.mark(t));
            if (t == aborted) {
                x.abort(t);
            } else {
                x.commit(t);
            }
            Check.refuses("live after its end", IllegalStateException.class, () -> x.mark(t));
            Check.answers("the others are live", x.live(), 3 - i);
        }
    }

    private static void atMostSixLive() {
        Check.sentence("Terms", "at most 6 are");
        SnapshotShelves x = new SnapshotShelves();
        for (int t = 0; t < 6; t++) {
            Check.answers("number", t % 2 == 0 ? x.begin() : x.beginAt(0), t);
            Check.answers("live", x.live(), t + 1);
        }
        Check.refuses("a seventh", UnsupportedOperationException.class, x::begin);
        x.write(1, 0, 1L);
        x.write(2, 0, 1L);
        x.commit(0);
        Check.answers("in the place of one without writes", x.begin(), 6);
        x.commit(1);
        Check.answers("in the place of one let in", x.begin(), 7);
        x.commit(2);
        Check.answers("in the place of one in conflict", x.begin(), 8);
        x.abort(3);
        Check.answers("in the place of one aborted", x.begin(), 9);
        Check.refuses("a seventh", UnsupportedOperationException.class, x::begin);
        Check.answers("live", x.live(), 6);
    }

    private static void numbersInOrder() {
        Check.sentence("Terms", "It has a NUMBER (0, 1, 2, .. in the order of the beginnings)");
        SnapshotShelves x = new SnapshotShelves();
        Check.answers("the first", x.begin(), 0);
        Check.answers("begin and beginAt in one order", x.beginAt(0), 1);
        x.abort(0);
        x.abort(1);
        Check.answers("none is used again", x.begin(), 2);
        Check.refuses("no time", IllegalArgumentException.class, () -> x.beginAt(9));
        Check.answers("a refused beginAt takes none", x.beginAt(0), 3);
        for (int t = 4; t < 8; t++) {
            x.begin();
        }
        Check.refuses("no room", UnsupportedOperationException.class, x::begin);
        x.abort(5);
        Check.answers("a refused begin takes none", x.begin(), 8);
    }

    private static void twelveWrites() {
        Check.sentence("Terms",
                "It has a row of at most 12 WRITES, each of a key and a value, or an erasure of a key.");
        SnapshotShelves x = new SnapshotShelves();
        Check.putAll(x, 0, 5, 1L);
        int t = x.begin();
        int other = x.begin();
        for (int key = 0; key < 6; key++) {
            x.erase(t, key);
            x.write(t, 15 - key, key);
        }
        Check.answers("six of each kind", x.mark(t), 12);
        Check.refuses("a write more", UnsupportedOperationException.class, () -> x.write(t, 15, 1L));
        Check.refuses("an erasure more", UnsupportedOperationException.class, () -> x.erase(t, 15));
        for (int i = 0; i < 12; i++) {
            int value = i;
            Check.accepts("each has its own twelve", () -> x.write(other, 0, value));
        }
        Check.answers("all are kept", Check.view(x, t), " 10=5 11=4 12=3 13=2 14=1 15=0");
    }

    private static void ownWriteIsFoundFirst() {
        Check.sentence("Terms", "the latest of its writes of this key, if it has one");
        SnapshotShelves x = new SnapshotShelves();
        Check.put(x, 3, 30L);
        int t = x.begin();
        int other = x.begin();
        x.write(t, 3, 31L);
        Check.answers("before the version", x.read(t, 3), 31L);
        x.write(t, 3, 32L);
        x.write(t, 4, 40L);
        Check.answers("the latest of two", x.read(t, 3), 32L);
        Check.answers("of this key", x.read(t, 4), 40L);
        Check.answers("of its own", x.read(other, 3), 30L);
        Check.put(x, 3, 99L);
        Check.answers("though a newer version is there", x.read(t, 3), 32L);
        x.erase(t, 3);
        Check.refuses("an erasure hides the version", NoSuchElementException.class, () -> x.read(t, 3));
        x.write(t, 3, 33L);
        Check.answers("a write behind the erasure", x.read(t, 3), 33L);
    }

    private static void versionOfGreatestTimeUpToStart() {
        Check.sentence("Terms",
                "of the versions of the key whose time is at most START, the one with the greatest time");
        SnapshotShelves x = new SnapshotShelves();
        Check.put(x, 0, 1L);
        Check.put(x, 7, 2L);
        Check.put(x, 0, 3L);
        Check.put(x, 7, 4L);
        Check.remove(x, 7);
        String[] due = {"", " 0=1", " 0=1 7=2", " 0=3 7=2", " 0=3 7=4", " 0=3"};
        for (int time = 0; time < due.length; time++) {
            Check.answers("at START " + time, Check.view(x, x.beginAt(time)), due[time]);
        }
        Check.answers("still at START 0", Check.view(x, 5), "");
    }

    private static void nothing() {
        Check.sentence("Terms", "There is NOTHING if neither is there or what it finds is an erasure.");
        SnapshotShelves x = new SnapshotShelves();
        Check.put(x, 1, 0L);
        Check.put(x, 2, 0L);
        int before = x.beginAt(0);
        int between = x.begin();
        Check.remove(x, 1);
        int after = x.begin();
        x.erase(after, 2);
        x.write(after, 3, 0L);
        x.erase(after, 3);
        List<Integer> found = new ArrayList<>();
        for (int t : new int[] {before, between, after}) {
            for (int key = 0; key < 4; key++) {
                int k = key;
                boolean something = Check.thrownBy(() -> x.read(t, k)).equals("nothing");
                found.add(something ? key : -1);
                Check.answers("next agrees", x.next(t, key) == key, something);
            }
        }
        Check.answers("found by the three, a value of 0 too", found,
                List.of(-1, -1, -1, -1, -1, 1, 2, -1, -1, -1, -1, -1));
    }

    private static void orderOfLines() {
        Check.sentence("Terms", "The exceptions that a call lists are looked at in the order in which its line "
                + "lists them; the first one that fits is thrown.");
    }

    private static void orderOfExceptions() {
        orderOfLines();
        SnapshotShelves x = new SnapshotShelves();
        for (int key : new int[] {-1, 16}) {
            Check.refuses("read: number, key", IllegalStateException.class, () -> x.read(0, key));
            Check.refuses("write: number, key", IllegalStateException.class, () -> x.write(0, key, 1L));
            Check.refuses("erase: number, key", IllegalStateException.class, () -> x.erase(0, key));
            Check.refuses("next: number, key", IllegalStateException.class, () -> x.next(0, key));
            Check.refuses("timeOf: key, version", IllegalArgumentException.class, () -> x.timeOf(key, 0));
            Check.refuses("valueOf: key, version", IllegalArgumentException.class, () -> x.valueOf(key, 0));
        }
        Check.refuses("read: number, nothing there", IllegalStateException.class, () -> x.read(0, 0));
        Check.refuses("erase: number, nothing there", IllegalStateException.class, () -> x.erase(0, 0));
        Check.refuses("rollback: number, count", IllegalStateException.class, () -> x.rollback(0, -1));
        Check.refuses("rollback: number, count", IllegalStateException.class, () -> x.rollback(0, 1));
        for (int t = 0; t < 6; t++) {
            x.begin();
        }
        Check.refuses("beginAt: time, too many", IllegalArgumentException.class, () -> x.beginAt(1));
        Check.refuses("beginAt: time, too many", IllegalArgumentException.class, () -> x.beginAt(-1));
        Check.refuses("read: key, nothing there", IllegalArgumentException.class, () -> x.read(0, 16));
        Check.refuses("erase: key, nothing there", IllegalArgumentException.class, () -> x.erase(0, 16));
    }

    private static void orderOfExceptionsInFullRow() {
        orderOfLines();
        SnapshotShelves x = new SnapshotShelves();
        int t = x.begin();
        for (int i = 0; i < 12; i++) {
            x.write(t, 0, i);
        }
        Check.refuses("write: key, too many", IllegalArgumentException.class, () -> x.write(t, 16, 1L));
        Check.refuses("erase: key, too many", IllegalArgumentException.class, () -> x.erase(t, -1));
        Check.refuses("erase: nothing there, too many", NoSuchElementException.class, () -> x.erase(t, 1));
        Check.refuses("erase: too many", UnsupportedOperationException.class, () -> x.erase(t, 0));
        x.rollback(t, 11);
        x.erase(t, 0);
        Check.refuses("erase: erased, too many", NoSuchElementException.class, () -> x.erase(t, 0));
        Check.refuses("write: number, too many", IllegalStateException.class, () -> x.write(t + 1, 0, 1L));
    }

    private static void wrongNumbers() {
        Check.sentence("Terms", "All calls with a transaction's number t throw IllegalStateException if no live "
                + "transaction has this number");
        SnapshotShelves never = new SnapshotShelves();
        refusesNumber(never, 0);

        SnapshotShelves x = new SnapshotShelves();
        Check.put(x, 0, 1L);
        x.begin();
        refusesNumber(x, 0);
        refusesNumber(x, 2);
        refusesNumber(x, Integer.MAX_VALUE);
        refusesNumber(x, Integer.MIN_VALUE);
        for (int t : NUMBERS_LIKE_1) {
            refusesNumber(x, t);
        }
        Check.accepts("number 1 is live", () -> x.mark(1));
        Check.accepts("number 1 ends", () -> x.abort(1));
        refusesNumber(x, 1);
        x.begin();
        refusesNumber(x, 1);
    }

    private static void refusesNumber(SnapshotShelves x, int t) {
        Check.refuses("read " + t, IllegalStateException.class, () -> x.read(t, 0));
        Check.refuses("write " + t, IllegalStateException.class, () -> x.write(t, 0, 1L));
        Check.refuses("erase " + t, IllegalStateException.class, () -> x.erase(t, 0));
        Check.refuses("mark " + t, IllegalStateException.class, () -> x.mark(t));
        Check.refuses("rollback " + t, IllegalStateException.class, () -> x.rollback(t, 0));
        Check.refuses("next " + t, IllegalStateException.class, () -> x.next(t, 0));
        Check.refuses("commit " + t, IllegalStateException.class, () -> x.commit(t));
        Check.refuses("abort " + t, IllegalStateException.class, () -> x.abort(t));
        Check.refuses("start " + t, IllegalStateException.class, () -> x.start(t));
    }

    private static void wrongKeys() {
        Check.sentence("Terms", "all calls with a key throw IllegalArgumentException if it is not 0 .. 15");
        SnapshotShelves x = new SnapshotShelves();
        Check.putAll(x, 0, 3, 1L);
        Check.putAll(x, 12, 15, 1L);
        int t = x.begin();
        for (int key : WRONG_KEYS) {
            Check.refuses("read " + key, IllegalArgumentException.class, () -> x.read(t, key));
            Check.refuses("write " + key, IllegalArgumentException.class, () -> x.write(t, key, 1L));
            Check.refuses("erase " + key, IllegalArgumentException.class, () -> x.erase(t, key));
            Check.refuses("next " + key, IllegalArgumentException.class, () -> x.next(t, key));
            Check.refuses("versions " + key, IllegalArgumentException.class, () -> x.versions(key));
            Check.refuses("timeOf " + key, IllegalArgumentException.class, () -> x.timeOf(key, 0));
            Check.refuses("valueOf " + key, IllegalArgumentException.class, () -> x.valueOf(key, 0));
        }
    }
}
