import java.util.NoSuchElementException;

/** Promises 12, 16, 17 and 18: vacuum, versions, timeOf and valueOf. */
public final class VersionsTest {
    public static void main(String[] args) {
        countedFromTheNewest();
        noSuchVersion();
        wrongKeys();
        sweepsAllButTheNewest();
        keepsWhatLiveOnesFind();
        ownWritesFreeNoVersion();
        erasuresAreFoundToo();
        theNewestErasureStays();
        sweepsEachKeyByItself();
        sweptTwice();
        Check.end();
    }

    private static void countedFromTheNewest() {
        SnapshotShelves x = new SnapshotShelves();
        Check.put(x, 4, 40L);
        Check.put(x, 5, 50L);
        Check.remove(x, 4);
        Check.put(x, 4, 42L);
        Check.answers("versions of 4", x.versions(4), 3);
        Check.answers("versions of 5", x.versions(5), 1);
        Check.answers("versions of 6", x.versions(6), 0);
        int[] times = {4, 3, 1};
        for (int k = 0; k < times.length; k++) {
            Check.answers("time of " + k, x.timeOf(4, k), times[k]);
        }
        Check.answers("newest", x.valueOf(4, 0), 42L);
        Check.refuses("an erasure has no value", NoSuchElementException.class, () -> x.valueOf(4, 1));
        Check.answers("oldest", x.valueOf(4, 2), 40L);
        Check.answers("the only one", x.valueOf(5, 0), 50L);
        Check.answers("its time", x.timeOf(5, 0), 2);
    }

    private static void noSuchVersion() {
        SnapshotShelves x = new SnapshotShelves();
        Check.put(x, 0, 1L);
        Check.put(x, 0, 2L);
        for (int k : new int[] {-1, 2, 48, Integer.MIN_VALUE, Integer.MAX_VALUE}) {
            Check.refuses("timeOf " + k, NoSuchElementException.class, () -> x.timeOf(0, k));
            Check.refuses("valueOf " + k, NoSuchElementException.class, () -> x.valueOf(0, k));
        }
        Check.refuses("timeOf an empty key", NoSuchElementException.class, () -> x.timeOf(1, 0));
        Check.refuses("valueOf an empty key", NoSuchElementException.class, () -> x.valueOf(1, 0));
    }

    private static void wrongKeys() {
        SnapshotShelves x = new SnapshotShelves();
        Check.put(x, 0, 1L);
        Check.put(x, 15, 1L);
        Check.answers("the least key", x.versions(0), 1);
        Check.answers("the greatest key", x.versions(15), 1);
        for (int key : new int[] {-1, 16, Integer.MIN_VALUE, Integer.MAX_VALUE}) {
            Check.refuses("versions " + key, IllegalArgumentException.class, () -> x.versions(key));
            for (int k : new int[] {0, -1, 99}) {
                Check.refuses("timeOf " + key, IllegalArgumentException.class, () -> x.timeOf(key, k));
                Check.refuses("valueOf " + key, IllegalArgumentException.class, () -> x.valueOf(key, k));
            }
        }
    }

    private static void sweepsAllButTheNewest() {
        SnapshotShelves x = new SnapshotShelves();
        for (int i = 0; i < 5; i++) {
            Check.put(x, 3, i);
        }
        Check.answers("swept", x.vacuum(), 4);
        Check.answers("left", x.versions(3), 1);
        Check.answers("time of it", x.timeOf(3, 0), 5);
        Check.answers("value of it", x.valueOf(3, 0), 4L);
        Check.answers("TIME stays", x.time(), 5);
    }

    private static void keepsWhatLiveOnesFind() {
        SnapshotShelves x = new SnapshotShelves();
        for (int i = 1; i <= 6; i++) {
            Check.put(x, 3, 10L * i);
        }
        int two = x.beginAt(2);
        int four = x.beginAt(4);
        int ended = x.beginAt(5);
        x.abort(ended);
        Check.answers("swept", x.vacuum(), 3);
        int[] times = {6, 4, 2};
        for (int k = 0; k < times.length; k++) {
            Check.answers("kept", x.timeOf(3, k), times[k]);
            Check.answers("kept", x.valueOf(3, k), 10L * times[k]);
        }
        Check.answers("still read", Check.view(x, two), " 3=20");
        Check.answers("still read", Check.view(x, four), " 3=40");
        x.commit(two);
        Check.answers("swept when it has ended", x.vacuum(), 1);
        Check.answers("still read", Check.view(x, four), " 3=40");
        Check.answers("versions", x.versions(3), 2);
    }

    private static void ownWritesFreeNoVersion() {
        SnapshotShelves x = new SnapshotShelves();
        Check.put(x, 0, 1L);
        int t = x.begin();
        x.write(t, 0, 2L);
        Check.put(x, 0, 3L);
        Check.answers("it would be found if there were no write", x.vacuum(), 0);
        x.rollback(t, 0);
        Check.answers("so it is there again", x.read(t, 0), 1L);
    }

    private static void erasuresAreFoundToo() {
        SnapshotShelves x = new SnapshotShelves();
        Check.put(x, 7, 1L);
        Check.remove(x, 7);
        int t = x.begin();
        Check.put(x, 7, 3L);
        Check.answers("the first alone is swept", x.vacuum(), 1);
        Check.answers("the erasure is kept", x.versions(7), 2);
        Check.answers("its time", x.timeOf(7, 1), 2);
        Check.answers("nothing is found", x.next(t, 0), SnapshotShelves.NONE);
        x.abort(t);
        Check.answers("then it is swept", x.vacuum(), 1);
        Check.answers("left", x.versions(7), 1);
    }

    private static void theNewestErasureStays() {
        SnapshotShelves x = new SnapshotShelves();
        Check.put(x, 7, 1L);
        Check.remove(x, 7);
        Check.answers("swept", x.vacuum(), 1);
        Check.answers("left", x.versions(7), 1);
        Check.answers("its time", x.timeOf(7, 0), 2);
    }

    private static void sweepsEachKeyByItself() {
        SnapshotShelves x = new SnapshotShelves();
        Check.put(x, 0, 1L);
        Check.put(x, 1, 2L);
        Check.put(x, 0, 3L);
        int t = x.begin();
        Check.put(x, 1, 4L);
        Check.put(x, 0, 5L);
        Check.put(x, 2, 6L);
        Check.answers("swept", x.vacuum(), 1);
        Check.answers("versions of 0", x.versions(0), 2);
        Check.answers("versions of 1", x.versions(1), 2);
        Check.answers("versions of 2", x.versions(2), 1);
        Check.answers("view", Check.view(x, t), " 0=3 1=2");
        Check.answers("new view", Check.view(x, x.begin()), " 0=5 1=4 2=6");
    }

    private static void sweptTwice() {
        SnapshotShelves x = new SnapshotShelves();
        Check.put(x, 0, 1L);
        Check.put(x, 0, 2L);
        Check.answers("first", x.vacuum(), 1);
        Check.answers("second", x.vacuum(), 0);
        Check.put(x, 0, 3L);
        Check.answers("third", x.vacuum(), 1);
    }
}
