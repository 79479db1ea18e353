import java.util.NoSuchElementException;

/** Promises 12, 16, 17 and 18: vacuum, versions, timeOf and valueOf. */
public final class VersionsTest {
    private static final int[] FAR_OFF = {-1, -2, 48, 256, 1 << 16, Integer.MIN_VALUE, Integer.MAX_VALUE};

    public static void main(String[] args) {
        Check.all(
                VersionsTest::sweepsAllButTheNewest,
                VersionsTest::sweepsFullShelves,
                VersionsTest::theNewestErasureStays,
                VersionsTest::keepsWhatLiveOnesFind,
                VersionsTest::keepsUpToStartAlone,
                VersionsTest::startBeforeEveryVersion,
                VersionsTest::endedOnesKeepNothing,
                VersionsTest::ownWritesFreeNoVersion,
                VersionsTest::erasuresAreFoundToo,
                VersionsTest::sweepsEachKeyByItself,
                VersionsTest::answersHowMany,
                VersionsTest::versionsOfAKey,
                VersionsTest::timesFromTheNewest,
                VersionsTest::noSuchTime,
                VersionsTest::valuesFromTheNewest,
                VersionsTest::noSuchValue,
                VersionsTest::erasuresHaveNoValue);
    }

    /** Versions of key 3 with times 1 to count, and ten times the time as values. */
    private static SnapshotShelves withVersions(int count) {
        SnapshotShelves x = new SnapshotShelves();
        for (int time = 1; time <= count; time++) {
            Check.put(x, 3, 10L * time);
        }
        return x;
    }

    private static void newest() {
        Check.sentence("Promise 12", "Takes away each version that is not the newest of its key");
    }

    private static void sweepsAllButTheNewest() {
        newest();
        SnapshotShelves x = withVersions(5);
        x.vacuum();
        Check.answers("left", Check.shelf(x, 3), " 5=50");
        Check.answers("TIME", x.time(), 5);
        Check.answers("what a new one reads", Check.view(x, x.begin()), " 3=50");
    }

    private static void sweepsFullShelves() {
        newest();
        SnapshotShelves x = withVersions(48);
        Check.answers("swept", x.vacuum(), 47);
        Check.answers("left", Check.shelf(x, 3), " 48=480");
        for (int i = 0; i < 47; i++) {
            Check.put(x, i % 16, i);
        }
        Check.answers("full again", Check.allVersions(x), 48);
        Check.answers("swept", x.vacuum(), 32);
        for (int key = 0; key < 16; key++) {
            Check.answers("left of " + key, x.versions(key), 1);
        }
    }

    private static void theNewestErasureStays() {
        newest();
        SnapshotShelves x = withVersions(1);
        Check.remove(x, 3);
        x.vacuum();
        Check.answers("left", Check.shelf(x, 3), " 2");
        Check.answers("nothing is left to sweep", x.vacuum(), 0);
    }

    private static void foundByNobody() {
        Check.sentence("Promise 12", "that no live transaction would find there");
    }

    private static void keepsWhatLiveOnesFind() {
        foundByNobody();
        SnapshotShelves x = withVersions(6);
        int two = x.beginAt(2);
        int four = x.beginAt(4);
        int fourAgain = x.beginAt(4);
        x.begin();
        x.vacuum();
        Check.answers("kept", Check.shelf(x, 3), " 6=60 4=40 2=20");
        Check.answers("still read", Check.view(x, two), " 3=20");
        Check.answers("still read", Check.view(x, four), " 3=40");
        x.commit(two);
        x.abort(four);
        x.vacuum();
        Check.answers("kept for one of two", Check.shelf(x, 3), " 6=60 4=40");
        Check.answers("still read", Check.view(x, fourAgain), " 3=40");
    }

    private static void keepsUpToStartAlone() {
        foundByNobody();
        for (int start = 0; start <= 6; start++) {
            SnapshotShelves x = new SnapshotShelves();
            for (int time = 1; time <= 6; time++) {
                Check.put(x, time % 2, time);
            }
            String before = Check.view(x, x.beginAt(start));
            x.vacuum();
            Check.answers("the same view from " + start, Check.view(x, 6), before);
            Check.answers("the fewest versions from " + start, Check.allVersions(x),
                    2 + (start >= 1 && start < 5 ? 1 : 0) + (start >= 2 && start < 6 ? 1 : 0));
        }
    }

    private static void startBeforeEveryVersion() {
        foundByNobody();
        SnapshotShelves x = new SnapshotShelves();
        x.begin();
        Check.put(x, 3, 1L);
        Check.put(x, 3, 2L);
        Check.answers("it finds none of them", x.vacuum(), 1);
        Check.answers("left", Check.shelf(x, 3), " 2=2");
    }

    private static void endedOnesKeepNothing() {
        foundByNobody();
        SnapshotShelves x = withVersions(6);
        int empty = x.beginAt(2);
        int aborted = x.beginAt(3);
        int conflict = x.beginAt(4);
        int letIn = x.beginAt(5);
        x.write(conflict, 3, 1L);
        x.write(letIn, 0, 1L);
        x.commit(empty);
        x.abort(aborted);
        x.commit(conflict);
        x.commit(letIn);
        x.vacuum();
        Check.answers("left", Check.shelf(x, 3), " 6=60");
    }

    private static void ownWritesFreeNoVersion() {
        Check.sentence("Promise 12", "if it had no writes");
        SnapshotShelves x = withVersions(1);
        int writer = x.begin();
        int eraser = x.begin();
        x.write(writer, 3, 2L);
        x.erase(eraser, 3);
        Check.put(x, 3, 30L);
        Check.answers("swept", x.vacuum(), 0);
        x.abort(eraser);
        Check.answers("swept", x.vacuum(), 0);
        x.rollback(writer, 0);
        Check.answers("it is there again", x.read(writer, 3), 10L);
    }

    private static void erasuresAreFoundToo() {
        Check.sentence("Promise 12", "(erasures are found too)");
        SnapshotShelves x = withVersions(1);
        Check.remove(x, 3);
        int t = x.begin();
        Check.put(x, 3, 30L);
        Check.answers("what is behind the erasure is not found", x.vacuum(), 1);
        Check.answers("kept", Check.shelf(x, 3), " 3=30 2");
        Check.answers("nothing is read", x.next(t, 0), SnapshotShelves.NONE);
        x.abort(t);
        Check.answers("swept", x.vacuum(), 1);
        Check.answers("left", Check.shelf(x, 3), " 3=30");
    }

    private static void sweepsEachKeyByItself() {
        Check.sentence("Promise 12", "Takes away each version");
        SnapshotShelves x = new SnapshotShelves();
        Check.put(x, 0, 1L);
        Check.put(x, 1, 2L);
        Check.put(x, 0, 3L);
        int t = x.begin();
        Check.put(x, 1, 4L);
        Check.put(x, 0, 5L);
        Check.put(x, 2, 6L);
        x.vacuum();
        Check.answers("versions of 0", Check.shelf(x, 0), " 5=5 3=3");
        Check.answers("versions of 1", Check.shelf(x, 1), " 4=4 2=2");
        Check.answers("versions of 2", Check.shelf(x, 2), " 6=6");
        Check.answers("what the live one reads", Check.view(x, t), " 0=3 1=2");
        Check.answers("what a new one reads", Check.view(x, x.begin()), " 0=5 1=4 2=6");
    }

    private static void answersHowMany() {
        Check.sentence("Promise 12", "answers how many");
        SnapshotShelves empty = new SnapshotShelves();
        Check.answers("of none", empty.vacuum(), 0);
        SnapshotShelves x = withVersions(1);
        Check.answers("of one alone", x.vacuum(), 0);
        Check.put(x, 3, 1L);
        Check.put(x, 3, 2L);
        Check.put(x, 5, 1L);
        Check.put(x, 5, 2L);
        Check.answers("of two keys", x.vacuum(), 3);
        Check.answers("at once again", x.vacuum(), 0);
        Check.put(x, 3, 3L);
        Check.answers("since then", x.vacuum(), 1);
    }

    private static void versionsOfAKey() {
        Check.sentence("Promise 16", "How many versions a key has.");
        SnapshotShelves x = new SnapshotShelves();
        Check.answers("none", x.versions(0), 0);
        int t = x.begin();
        x.write(t, 0, 1L);
        Check.answers("an open write is none", x.versions(0), 0);
        x.commit(t);
        Check.answers("one", x.versions(0), 1);
        Check.remove(x, 0);
        Check.answers("an erasure counts", x.versions(0), 2);
        Check.put(x, 15, 1L);
        Check.answers("of this key alone", x.versions(0), 2);
        Check.answers("of the other", x.versions(15), 1);
        Check.answers("of none between", x.versions(7), 0);
        x.vacuum();
        Check.answers("after a vacuum", x.versions(0), 1);
        Check.answers("all in one key", withVersions(48).versions(3), 48);
    }

    private static void timesFromTheNewest() {
        Check.sentence("Promise 17",
                "The time of version k of a key, counted from the newest one, which is version 0");
        SnapshotShelves x = withVersions(3);
        Check.put(x, 4, 1L);
        Check.remove(x, 3);
        int[] times = {5, 3, 2, 1};
        for (int k = 0; k < times.length; k++) {
            Check.answers("time of " + k, x.timeOf(3, k), times[k]);
        }
        Check.answers("of the other key", x.timeOf(4, 0), 4);
        int t = x.beginAt(2);
        x.vacuum();
        Check.answers("the newest after a vacuum", x.timeOf(3, 0), 5);
        Check.answers("the next after a vacuum", x.timeOf(3, 1), 2);
        x.write(t, 4, 2L);
        Check.answers("open writes are not counted", x.timeOf(4, 0), 4);
    }

    private static void noSuchTime() {
        Check.sentence("Promise 17", "NoSuchElementException if there is none.");
        SnapshotShelves x = withVersions(2);
        Check.answers("the oldest", x.timeOf(3, 1), 1);
        Check.refuses("behind the oldest", NoSuchElementException.class, () -> x.timeOf(3, 2));
        Check.refuses("of an empty key", NoSuchElementException.class, () -> x.timeOf(4, 0));
        for (int k : FAR_OFF) {
            Check.refuses("version " + k, NoSuchElementException.class, () -> x.timeOf(3, k));
        }
        x.vacuum();
        Check.refuses("swept away", NoSuchElementException.class, () -> x.timeOf(3, 1));
        SnapshotShelves full = withVersions(48);
        Check.answers("the oldest of 48", full.timeOf(3, 47), 1);
        Check.refuses("behind the oldest of 48", NoSuchElementException.class, () -> full.timeOf(3, 48));
    }

    private static void valuesFromTheNewest() {
        Check.sentence("Promise 18", "The value of version k of a key, counted so.");
        SnapshotShelves x = new SnapshotShelves();
        long[] values = {Long.MAX_VALUE, 0L, -1L, Long.MIN_VALUE, 1L << 32};
        for (int i = values.length - 1; i >= 0; i--) {
            Check.put(x, 3, values[i]);
            Check.put(x, 4, 7L);
        }
        for (int k = 0; k < values.length; k++) {
            Check.answers("value of " + k, x.valueOf(3, k), values[k]);
        }
        x.beginAt(5);
        x.vacuum();
        Check.answers("the newest after a vacuum", x.valueOf(3, 0), values[0]);
        Check.answers("the next after a vacuum", x.valueOf(3, 1), values[2]);
    }

    private static void noSuchValue() {
        Check.sentence("Promise 18", "NoSuchElementException if there is none");
        SnapshotShelves x = withVersions(2);
        Check.answers("the oldest", x.valueOf(3, 1), 10L);
        Check.refuses("behind the oldest", NoSuchElementException.class, () -> x.valueOf(3, 2));
        Check.refuses("of an empty key", NoSuchElementException.class, () -> x.valueOf(4, 0));
        for (int k : FAR_OFF) {
            Check.refuses("version " + k, NoSuchElementException.class, () -> x.valueOf(3, k));
        }
        x.vacuum();
        Check.refuses("swept away", NoSuchElementException.class, () -> x.valueOf(3, 1));
        SnapshotShelves full = withVersions(48);
        Check.answers("the oldest of 48", full.valueOf(3, 47), 10L);
        Check.refuses("behind the oldest of 48", NoSuchElementException.class, () -> full.valueOf(3, 48));
    }

    private static void erasuresHaveNoValue() {
        Check.sentence("Promise 18", "or it is an erasure");
        SnapshotShelves x = withVersions(1);
        Check.remove(x, 3);
        Check.refuses("the newest", NoSuchElementException.class, () -> x.valueOf(3, 0));
        Check.answers("the one behind it", x.valueOf(3, 1), 10L);
        Check.put(x, 3, 0L);
        Check.answers("written again, 0", x.valueOf(3, 0), 0L);
        Check.refuses("in the middle", NoSuchElementException.class, () -> x.valueOf(3, 1));
        Check.answers("it has a time", x.timeOf(3, 1), 2);
    }
}
