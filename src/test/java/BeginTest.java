/** Promises 1, 2, 3, 13, 14 and 15: a new object, begin, beginAt, time, live and start. */
public final class BeginTest {
    public static void main(String[] args) {
        Check.all(
                BeginTest::newObject,
                BeginTest::objectsStandApart,
                BeginTest::beginsAtTime,
                BeginTest::placesAreCleanAgain,
                BeginTest::sixAreLive,
                BeginTest::beginsAtAGivenTime,
                BeginTest::belowZero,
                BeginTest::belowTheLatestVacuum,
                BeginTest::aVacuumThatSweepsNothing,
                BeginTest::aVacuumAtZero,
                BeginTest::aboveTime,
                BeginTest::sixAreLiveForBeginAt,
                BeginTest::time,
                BeginTest::live,
                BeginTest::start);
    }

    private static void newObject() {
        Check.sentence("Promise 1", "No versions, no transactions.");
        SnapshotShelves x = new SnapshotShelves();
        Check.answers("live", x.live(), 0);
        Check.answers("versions", Check.allVersions(x), 0);
        for (int t = 0; t < 6; t++) {
            int number = t;
            Check.refuses("start", IllegalStateException.class, () -> x.start(number));
        }
        Check.answers("vacuum", x.vacuum(), 0);
        Check.answers("the first number", x.begin(), 0);
        Check.answers("nothing to read", x.next(0, 0), SnapshotShelves.NONE);
    }

    private static void objectsStandApart() {
        Check.sentence("Promise 1", "No versions, no transactions.");
        SnapshotShelves x = new SnapshotShelves();
        Check.put(x, 4, 44L);
        x.begin();
        x.vacuum();
        SnapshotShelves y = new SnapshotShelves();
        Check.answers("the other's live", y.live(), 0);
        Check.answers("the other's time", y.time(), 0);
        Check.answers("the other's versions", y.versions(4), 0);
        Check.answers("the other's latest vacuum", y.beginAt(0), 0);
    }

    private static void beginsAtTime() {
        Check.sentence("Promise 2", "A transaction begins, with TIME as its START; answers its number.");
        SnapshotShelves x = new SnapshotShelves();
        Check.answers("number", x.begin(), 0);
        Check.put(x, 0, 5L);
        Check.put(x, 0, 6L);
        Check.answers("number", x.begin(), 3);
        Check.answers("live", x.live(), 2);
        Check.answers("START of the older", x.start(0), 0);
        Check.answers("START of the newer", x.start(3), 2);
        Check.answers("it reads what is there now", Check.view(x, 3), " 0=6");
        Check.answers("it has no writes", x.mark(3), 0);
    }

    private static void placesAreCleanAgain() {
        Check.sentence("Promise 2", "A transaction begins");
        SnapshotShelves x = new SnapshotShelves();
        for (int round = 0; round < 8; round++) {
            int t = x.begin();
            Check.answers("no writes at first", x.mark(t), 0);
            Check.answers("nothing at first", x.next(t, 0), SnapshotShelves.NONE);
            x.write(t, round, 1L);
            x.abort(t);
        }
    }

    private static void sixAreLive() {
        Check.sentence("Promise 2", "UnsupportedOperationException if 6 are live.");
        SnapshotShelves x = new SnapshotShelves();
        for (int t = 0; t < 6; t++) {
            Check.answers("begin with " + t + " live", x.begin(), t);
        }
        Check.refuses("begin with 6 live", UnsupportedOperationException.class, x::begin);
        Check.refuses("and again", UnsupportedOperationException.class, x::begin);
        x.abort(3);
        Check.answers("begin with 5 live", x.begin(), 6);
        Check.refuses("begin with 6 live", UnsupportedOperationException.class, x::begin);
    }

    private static void beginsAtAGivenTime() {
        Check.sentence("Promise 3", "A transaction begins with this START; answers its number.");
        SnapshotShelves x = new SnapshotShelves();
        Check.answers("at 0, the only time", x.beginAt(0), 0);
        x.abort(0);
        Check.put(x, 7, 70L);
        Check.put(x, 7, 71L);
        Check.remove(x, 7);
        Check.put(x, 7, 73L);
        String[] due = {"", " 7=70", " 7=71", "", " 7=73"};
        for (int time = 0; time < due.length; time++) {
            int t = 5 + time;
            Check.answers("number", x.beginAt(time), t);
            Check.answers("START", x.start(t), time);
            Check.answers("it reads what was there at " + time, Check.view(x, t), due[time]);
            Check.answers("it has no writes", x.mark(t), 0);
        }
        Check.answers("live", x.live(), 5);
    }

    private static void belowZero() {
        Check.sentence("Promise 3", "(0 if there was none)");
        SnapshotShelves x = new SnapshotShelves();
        Check.put(x, 0, 1L);
        Check.refuses("at -1", IllegalArgumentException.class, () -> x.beginAt(-1));
        Check.refuses("at the least int", IllegalArgumentException.class, () -> x.beginAt(Integer.MIN_VALUE));
        Check.answers("at 0", x.start(x.beginAt(0)), 0);
    }

    private static void belowTheLatestVacuum() {
        Check.sentence("Promise 3",
                "IllegalArgumentException if the time is below what TIME was at the latest vacuum");
        SnapshotShelves x = new SnapshotShelves();
        for (int i = 1; i <= 3; i++) {
            Check.put(x, 0, i);
        }
        x.vacuum();
        Check.put(x, 0, 4L);
        Check.put(x, 0, 5L);
        Check.refuses("before the vacuum", IllegalArgumentException.class, () -> x.beginAt(2));
        Check.refuses("long before it", IllegalArgumentException.class, () -> x.beginAt(0));
        int old = x.beginAt(3);
        Check.answers("at the vacuum's time", Check.view(x, old), " 0=3");
        x.vacuum();
        Check.refuses("before the latest, after the first", IllegalArgumentException.class, () -> x.beginAt(3));
        Check.refuses("though a live one reads it", IllegalArgumentException.class, () -> x.beginAt(x.start(old)));
        Check.refuses("just before the latest", IllegalArgumentException.class, () -> x.beginAt(4));
        Check.answers("at the latest vacuum's time", Check.view(x, x.beginAt(5)), " 0=5");
        Check.answers("the old one reads on", Check.view(x, old), " 0=3");
    }

    private static void aVacuumThatSweepsNothing() {
        Check.sentence("Promise 3", "what TIME was at the latest vacuum");
        SnapshotShelves x = new SnapshotShelves();
        Check.put(x, 0, 1L);
        x.begin();
        Check.put(x, 0, 2L);
        Check.answers("swept", x.vacuum(), 0);
        Check.refuses("both versions are there", IllegalArgumentException.class, () -> x.beginAt(1));
        Check.answers("at the vacuum's time", x.start(x.beginAt(2)), 2);
    }

    private static void aVacuumAtZero() {
        Check.sentence("Promise 3", "what TIME was at the latest vacuum");
        SnapshotShelves x = new SnapshotShelves();
        x.vacuum();
        Check.put(x, 0, 1L);
        Check.answers("at 0", Check.view(x, x.beginAt(0)), "");
        Check.refuses("at -1", IllegalArgumentException.class, () -> x.beginAt(-1));
    }

    private static void aboveTime() {
        Check.sentence("Promise 3", "or above TIME");
        SnapshotShelves x = new SnapshotShelves();
        Check.refuses("1 at 0", IllegalArgumentException.class, () -> x.beginAt(1));
        Check.put(x, 0, 1L);
        Check.refuses("2 at 1", IllegalArgumentException.class, () -> x.beginAt(2));
        Check.refuses("the greatest int", IllegalArgumentException.class, () -> x.beginAt(Integer.MAX_VALUE));
        Check.refuses("what a byte takes for 1", IllegalArgumentException.class, () -> x.beginAt(257));
        Check.answers("1 at 1", x.start(x.beginAt(1)), 1);
        x.vacuum();
        Check.refuses("2 at 1 after a vacuum", IllegalArgumentException.class, () -> x.beginAt(2));
        Check.answers("1 at 1 after a vacuum", x.start(x.beginAt(1)), 1);
    }

    private static void sixAreLiveForBeginAt() {
        Check.sentence("Promise 3", "UnsupportedOperationException if 6 are live.");
        SnapshotShelves x = new SnapshotShelves();
        Check.put(x, 0, 1L);
        for (int t = 1; t <= 6; t++) {
            Check.answers("beginAt with " + (t - 1) + " live", x.beginAt(t % 2), t);
        }
        Check.refuses("beginAt with 6 live", UnsupportedOperationException.class, () -> x.beginAt(0));
        Check.refuses("at TIME too", UnsupportedOperationException.class, () -> x.beginAt(1));
        x.commit(6);
        Check.answers("beginAt with 5 live", x.beginAt(0), 7);
    }

    private static void time() {
        Check.sentence("Promise 13", "TIME.");
        SnapshotShelves x = new SnapshotShelves();
        Check.answers("new", x.time(), 0);
        for (int i = 1; i <= 20; i++) {
            Check.put(x, i % 4, i);
            Check.answers("time", x.time(), i);
        }
    }

    private static void live() {
        Check.sentence("Promise 14", "How many transactions are live.");
        SnapshotShelves x = new SnapshotShelves();
        Check.answers("none", x.live(), 0);
        for (int t = 0; t < 6; t++) {
            x.begin();
            Check.answers("live", x.live(), t + 1);
        }
        Check.thrownBy(x::begin);
        Check.answers("after a refused begin", x.live(), 6);
        for (int t = 5; t >= 0; t--) {
            x.abort(t);
            Check.answers("live", x.live(), t);
        }
    }

    private static void start() {
        Check.sentence("Promise 15", "The transaction's START.");
        SnapshotShelves x = new SnapshotShelves();
        int first = x.begin();
        x.write(first, 5, 1L);
        Check.put(x, 0, 1L);
        int second = x.begin();
        Check.put(x, 0, 2L);
        int third = x.beginAt(1);
        x.vacuum();
        Check.answers("of the first", x.start(first), 0);
        Check.answers("of the second", x.start(second), 1);
        Check.answers("of one in the past", x.start(third), 1);
        x.rollback(first, 0);
        Check.answers("after a rollback", x.start(first), 0);
        x.abort(second);
        Check.answers("in a place used before", x.start(x.begin()), 2);
        Check.refuses("of an ended one", IllegalStateException.class, () -> x.start(second));
    }
}
