/** Promises 10 and 11: commit and abort. */
public final class CommitTest {
    public static void main(String[] args) {
        emptyCommit();
        letIn();
        latestWriteOfEachKey();
        conflict();
        noConflict();
        conflictByErasureAndAfterVacuum();
        rolledBackKeysDoNotConflict();
        fortyEightVersions();
        conflictBeforeTooMany();
        abortLosesWrites();
        wrongNumbers();
        Check.end();
    }

    private static void emptyCommit() {
        SnapshotShelves x = new SnapshotShelves();
        int a = x.begin();
        Check.answers("TIME at first", x.commit(a), 0);
        int b = x.begin();
        Check.put(x, 0, 1L);
        Check.put(x, 1, 1L);
        Check.answers("read only: TIME, not START", x.commit(b), 2);
        Check.answers("time stays", x.time(), 2);
        Check.answers("live", x.live(), 0);
    }

    private static void letIn() {
        SnapshotShelves x = new SnapshotShelves();
        int t = x.begin();
        int old = x.begin();
        x.write(t, 2, 20L);
        x.write(t, 14, 140L);
        Check.answers("no version before", x.versions(2), 0);
        Check.answers("the new time", x.commit(t), 1);
        Check.answers("time", x.time(), 1);
        Check.answers("live", x.live(), 1);
        Check.refuses("ended", IllegalStateException.class, () -> x.start(t));
        Check.answers("version", x.versions(2) + x.versions(14), 2);
        Check.answers("time of it", x.timeOf(2, 0), 1);
        Check.answers("time of it", x.timeOf(14, 0), 1);
        Check.answers("value", x.valueOf(14, 0), 140L);
        Check.answers("the live one reads as before", Check.view(x, old), "");
        Check.answers("a new one reads it", Check.view(x, x.begin()), " 2=20 14=140");
    }

    private static void latestWriteOfEachKey() {
        SnapshotShelves x = new SnapshotShelves();
        Check.put(x, 3, 1L);
        int t = x.begin();
        x.write(t, 1, 10L);
        x.write(t, 2, 20L);
        x.write(t, 1, 11L);
        x.erase(t, 3);
        x.erase(t, 2);
        x.write(t, 4, 40L);
        x.erase(t, 4);
        x.write(t, 4, 41L);
        Check.answers("commit", x.commit(t), 2);
        Check.answers("one version a key", x.versions(1), 1);
        Check.answers("the latest", x.valueOf(1, 0), 11L);
        Check.answers("an erasure is a version", x.versions(2), 1);
        Check.answers("its time", x.timeOf(2, 0), 2);
        Check.answers("it has no value", Check.thrownBy(() -> x.valueOf(2, 0)), "NoSuchElementException");
        Check.answers("behind the older one", x.versions(3), 2);
        Check.answers("written again", x.valueOf(4, 0), 41L);
        Check.answers("view", Check.view(x, x.begin()), " 1=11 4=41");
    }

    private static void conflict() {
        SnapshotShelves x = new SnapshotShelves();
        int a = x.begin();
        int b = x.begin();
        x.write(a, 5, 1L);
        x.write(b, 4, 1L);
        x.write(b, 5, 2L);
        x.write(b, 6, 2L);
        Check.answers("the first is let in", x.commit(a), 1);
        Check.answers("the second is not", x.commit(b), SnapshotShelves.CONFLICT);
        Check.answers("not live", x.live(), 0);
        Check.refuses("ended", IllegalStateException.class, () -> x.commit(b));
        Check.answers("time stays", x.time(), 1);
        Check.answers("its writes are lost", Check.view(x, x.begin()), " 5=1");
        int late = x.beginAt(0);
        x.write(late, 5, 3L);
        Check.answers("START counts, not the beginning", x.commit(late), SnapshotShelves.CONFLICT);
    }

    private static void noConflict() {
        SnapshotShelves x = new SnapshotShelves();
        Check.put(x, 5, 0L);
        int a = x.begin();
        int b = x.begin();
        int reader = x.begin();
        x.write(a, 5, 1L);
        x.write(b, 6, 2L);
        x.read(b, 5);
        Check.answers("a version at START is no conflict", x.commit(a), 2);
        Check.answers("what is only read is no conflict", x.commit(b), 3);
        Check.answers("no writes, no conflict", x.commit(reader), 3);
        int past = x.beginAt(2);
        x.write(past, 5, 3L);
        Check.answers("a past START at the version's time", x.commit(past), 4);
        Check.answers("versions", x.versions(5), 3);
    }

    private static void conflictByErasureAndAfterVacuum() {
        SnapshotShelves x = new SnapshotShelves();
        Check.put(x, 9, 1L);
        int a = x.begin();
        int b = x.begin();
        x.erase(a, 9);
        x.write(b, 9, 2L);
        Check.remove(x, 9);
        x.vacuum();
        Check.answers("both erase", x.commit(a), SnapshotShelves.CONFLICT);
        x.vacuum();
        Check.answers("erased since", x.commit(b), SnapshotShelves.CONFLICT);
        Check.answers("swept", x.vacuum(), 1);
        Check.answers("the erasure alone is left", x.versions(9), 1);
    }

    private static void rolledBackKeysDoNotConflict() {
        SnapshotShelves x = new SnapshotShelves();
        int t = x.begin();
        x.write(t, 0, 1L);
        x.write(t, 1, 1L);
        x.write(t, 1, 2L);
        Check.put(x, 1, 5L);
        x.rollback(t, 1);
        Check.answers("let in", x.commit(t), 2);
        Check.answers("no new version", x.versions(1), 1);
        Check.answers("view", Check.view(x, x.begin()), " 0=1 1=5");
    }

    private static SnapshotShelves withVersions(int count) {
        SnapshotShelves x = new SnapshotShelves();
        for (int i = 0; i < count; i++) {
            Check.put(x, i % 3, i);
        }
        return x;
    }

    private static void fortyEightVersions() {
        SnapshotShelves x = withVersions(46);
        int three = x.begin();
        x.write(three, 10, 1L);
        x.write(three, 11, 1L);
        x.write(three, 12, 1L);
        Check.refuses("49 versions", UnsupportedOperationException.class, () -> x.commit(three));
        x.rollback(three, 2);
        x.write(three, 10, 2L);
        x.write(three, 11, 2L);
        Check.answers("48 versions, keys count once", x.commit(three), 47);
        Check.answers("full, but nothing to write", x.commit(x.begin()), 47);
        int one = x.begin();
        x.erase(one, 0);
        Check.refuses("an erasure too", UnsupportedOperationException.class, () -> x.commit(one));
        Check.answers("it is live", x.mark(one), 1);
        Check.answers("swept", x.vacuum(), 43);
        Check.answers("and let in", x.commit(one), 48);
        Check.answers("versions", x.versions(0), 2);
    }

    private static void conflictBeforeTooMany() {
        SnapshotShelves x = withVersions(47);
        int old = x.begin();
        x.write(old, 15, 1L);
        Check.put(x, 15, 9L);
        Check.answers("a conflict, not too many", x.commit(old), SnapshotShelves.CONFLICT);
        Check.answers("live", x.live(), 0);
    }

    private static void abortLosesWrites() {
        SnapshotShelves x = new SnapshotShelves();
        Check.put(x, 1, 1L);
        int t = x.begin();
        int other = x.begin();
        x.write(t, 1, 2L);
        x.write(other, 1, 3L);
        x.abort(t);
        Check.answers("live", x.live(), 1);
        Check.answers("time", x.time(), 1);
        Check.answers("versions", x.versions(1), 1);
        Check.refuses("ended", IllegalStateException.class, () -> x.abort(t));
        Check.refuses("ended", IllegalStateException.class, () -> x.commit(t));
        Check.answers("the other one goes on", x.commit(other), 2);
        Check.answers("value", x.valueOf(1, 0), 3L);
    }

    private static void wrongNumbers() {
        SnapshotShelves x = new SnapshotShelves();
        x.begin();
        x.begin();
        x.commit(0);
        for (int t : new int[] {-1, 0, 2, 6, Integer.MIN_VALUE, Integer.MAX_VALUE}) {
            Check.refuses("commit " + t, IllegalStateException.class, () -> x.commit(t));
            Check.refuses("abort " + t, IllegalStateException.class, () -> x.abort(t));
        }
    }
}
