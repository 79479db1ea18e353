/** Promises 1, 2, 3, 13, 14 and 15: a new object, begin, beginAt, time, live and start. */
public final class BeginTest {
    public static void main(String[] args) {
        newObject();
        objectsStandApart();
        numbersAndStarts();
        sixAreLive();
        beginAtReadsThen();
        beginAtBounds();
        beginAtAfterVacuum();
        orderOfExceptions();
        timeCountsWritersAlone();
        startOfNobody();
        Check.end();
    }

    private static void newObject() {
        SnapshotShelves x = new SnapshotShelves();
        Check.answers("new time", x.time(), 0);
        Check.answers("new live", x.live(), 0);
        for (int key = 0; key < 16; key++) {
            Check.answers("new versions of " + key, x.versions(key), 0);
        }
        for (int t = -1; t < 8; t++) {
            int number = t;
            Check.refuses("new start", IllegalStateException.class, () -> x.start(number));
        }
        Check.answers("new vacuum", x.vacuum(), 0);
        Check.answers("first number", x.begin(), 0);
        Check.answers("nothing to read", x.next(0, 0), SnapshotShelves.NONE);
    }

    private static void objectsStandApart() {
        SnapshotShelves x = new SnapshotShelves();
        SnapshotShelves y = new SnapshotShelves();
        Check.put(x, 4, 44L);
        Check.answers("the other's time", y.time(), 0);
        Check.answers("the other's versions", y.versions(4), 0);
        Check.answers("the other's first number", y.begin(), 0);
    }

    private static void numbersAndStarts() {
        SnapshotShelves x = new SnapshotShelves();
        Check.answers("number", x.begin(), 0);
        Check.answers("number", x.begin(), 1);
        x.abort(0);
        Check.answers("numbers are not used again", x.begin(), 2);
        x.write(1, 0, 5L);
        Check.answers("commit", x.commit(1), 1);
        Check.answers("number", x.begin(), 3);
        Check.answers("number of beginAt", x.beginAt(0), 4);
        Check.answers("start of the older", x.start(2), 0);
        Check.answers("start of the newer", x.start(3), 1);
        Check.answers("start of beginAt", x.start(4), 0);
        Check.answers("live", x.live(), 3);
    }

    private static void sixAreLive() {
        SnapshotShelves x = new SnapshotShelves();
        for (int t = 0; t < 6; t++) {
            Check.answers("number", x.begin(), t);
            Check.answers("live", x.live(), t + 1);
        }
        Check.refuses("seventh begin", UnsupportedOperationException.class, x::begin);
        Check.refuses("seventh beginAt", UnsupportedOperationException.class, () -> x.beginAt(0));
        x.abort(3);
        Check.answers("live after abort", x.live(), 5);
        Check.answers("a refused begin takes no number", x.begin(), 6);
        Check.answers("commit without writes", x.commit(0), 0);
        Check.answers("number of beginAt", x.beginAt(0), 7);
        Check.answers("live", x.live(), 6);
    }

    private static void beginAtReadsThen() {
        SnapshotShelves x = new SnapshotShelves();
        Check.put(x, 7, 70L);
        Check.put(x, 7, 71L);
        Check.remove(x, 7);
        Check.put(x, 7, 73L);
        String[] due = {"", " 7=70", " 7=71", "", " 7=73"};
        for (int time = 0; time < due.length; time++) {
            int t = x.beginAt(time);
            Check.answers("start", x.start(t), time);
            Check.answers("view at " + time, Check.view(x, t), due[time]);
        }
    }

    private static void beginAtBounds() {
        SnapshotShelves x = new SnapshotShelves();
        Check.refuses("after TIME", IllegalArgumentException.class, () -> x.beginAt(1));
        Check.put(x, 0, 1L);
        Check.refuses("after TIME", IllegalArgumentException.class, () -> x.beginAt(2));
        Check.refuses("below 0", IllegalArgumentException.class, () -> x.beginAt(-1));
        Check.refuses("least int", IllegalArgumentException.class, () -> x.beginAt(Integer.MIN_VALUE));
        Check.refuses("greatest int", IllegalArgumentException.class, () -> x.beginAt(Integer.MAX_VALUE));
        Check.answers("at TIME", x.beginAt(1), 1);
        Check.answers("at 0", x.beginAt(0), 2);
    }

    private static void beginAtAfterVacuum() {
        SnapshotShelves x = new SnapshotShelves();
        Check.put(x, 0, 1L);
        int old = x.begin();
        Check.put(x, 0, 2L);
        Check.answers("nothing to sweep", x.vacuum(), 0);
        Check.put(x, 1, 3L);
        Check.refuses("before the vacuum, though the versions are there",
                IllegalArgumentException.class, () -> x.beginAt(1));
        Check.answers("at the vacuum's time", x.start(x.beginAt(2)), 2);
        Check.answers("the old one is still live", Check.view(x, old), " 0=1");
        x.vacuum();
        Check.refuses("the latest vacuum counts", IllegalArgumentException.class, () -> x.beginAt(2));
        Check.answers("at the latest vacuum", x.start(x.beginAt(3)), 3);
    }

    private static void orderOfExceptions() {
        SnapshotShelves x = new SnapshotShelves();
        for (int t = 0; t < 6; t++) {
            x.begin();
        }
        Check.refuses("a wrong time before too many", IllegalArgumentException.class, () -> x.beginAt(1));
    }

    private static void timeCountsWritersAlone() {
        SnapshotShelves x = new SnapshotShelves();
        x.commit(x.begin());
        Check.answers("no writes", x.time(), 0);
        int lost = x.begin();
        int aborted = x.begin();
        x.write(lost, 2, 1L);
        x.write(aborted, 3, 1L);
        Check.answers("let in", Check.put(x, 2, 1L), 1);
        Check.answers("conflict", x.commit(lost), SnapshotShelves.CONFLICT);
        x.abort(aborted);
        x.vacuum();
        Check.answers("time", x.time(), 1);
        Check.answers("erasures count too", Check.remove(x, 2), 2);
        Check.answers("time", x.time(), 2);
        Check.answers("live", x.live(), 0);
    }

    private static void startOfNobody() {
        SnapshotShelves x = new SnapshotShelves();
        x.begin();
        x.begin();
        x.abort(1);
        for (int t : new int[] {-1, 1, 2, Integer.MIN_VALUE, Integer.MAX_VALUE}) {
            Check.refuses("start " + t, IllegalStateException.class, () -> x.start(t));
        }
    }
}
