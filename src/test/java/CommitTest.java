/** Promises 10 and 11: commit and abort. */
public final class CommitTest {
    public static void main(String[] args) {
        Check.all(
                CommitTest::endsTheTransaction,
                CommitTest::noWrites,
                CommitTest::noWritesOnFullShelves,
                CommitTest::conflictAtAnyOfItsKeys,
                CommitTest::conflictByOneAboveStart,
                CommitTest::conflictWithErasures,
                CommitTest::conflictAfterVacuum,
                CommitTest::noConflict,
                CommitTest::conflictLosesWrites,
                CommitTest::letIn,
                CommitTest::latestWriteOfEachKey,
                CommitTest::aKeyThatNeverWas,
                CommitTest::moreThan48,
                CommitTest::keysCountOnceAgainst48,
                CommitTest::staysLive,
                CommitTest::conflictBeforeTooMany,
                CommitTest::abortEnds,
                CommitTest::abortLosesWrites);
    }

    private static void endsTheTransaction() {
        Check.sentence("Promise 10", "Ends the transaction.");
        SnapshotShelves x = new SnapshotShelves();
        int empty = x.begin();
        int first = x.begin();
        int second = x.begin();
        int other = x.begin();
        x.write(first, 0, 1L);
        x.write(second, 0, 2L);
        for (int t : new int[] {empty, first, second}) {
            int before = x.live();
            x.commit(t);
            Check.answers("live", x.live(), before - 1);
            Check.refuses("committed again", IllegalStateException.class, () -> x.commit(t));
            Check.refuses("aborted", IllegalStateException.class, () -> x.abort(t));
            Check.refuses("written", IllegalStateException.class, () -> x.write(t, 0, 1L));
        }
        Check.answers("the other one is live", x.mark(other), 0);
    }

    private static void noWrites() {
        Check.sentence("Promise 10", "If it has no writes, nothing else happens and the answer is TIME.");
        SnapshotShelves x = new SnapshotShelves();
        Check.answers("at first", x.commit(x.begin()), 0);
        int old = x.begin();
        int takenBack = x.begin();
        x.write(takenBack, 0, 9L);
        x.rollback(takenBack, 0);
        Check.putAll(x, 0, 7, 1L);
        Check.putAll(x, 8, 15, 1L);
        Check.answers("TIME, not START", x.commit(old), 2);
        Check.answers("though what it took back has changed", x.commit(takenBack), 2);
        Check.answers("in the past", x.commit(x.beginAt(1)), 2);
        Check.answers("time", x.time(), 2);
        Check.answers("versions", Check.allVersions(x), 16);
    }

    private static SnapshotShelves withVersions(int count) {
        SnapshotShelves x = new SnapshotShelves();
        for (int i = 0; i < count; i++) {
            Check.put(x, i % 3, i);
        }
        return x;
    }

    private static void noWritesOnFullShelves() {
        Check.sentence("Promise 10", "If it has no writes, nothing else happens and the answer is TIME.");
        SnapshotShelves x = withVersions(48);
        Check.answers("with 48 versions", x.commit(x.begin()), 48);
        Check.answers("live", x.live(), 0);
    }

    private static void anyKey() {
        Check.sentence("Promise 10",
                "CONFLICT if one of the keys that it writes has a version whose time is greater than its START");
    }

    private static void conflictAtAnyOfItsKeys() {
        anyKey();
        for (int changed = 0; changed < 12; changed++) {
            SnapshotShelves x = new SnapshotShelves();
            int t = x.begin();
            for (int key = 0; key < 12; key++) {
                x.write(t, key, key);
            }
            Check.put(x, 15, 1L);
            Check.put(x, changed, 1L);
            Check.put(x, 14, 1L);
            Check.answers("at its write " + changed, x.commit(t), SnapshotShelves.CONFLICT);
        }
    }

    private static void conflictByOneAboveStart() {
        anyKey();
        for (int start = 0; start <= 4; start++) {
            SnapshotShelves x = new SnapshotShelves();
            for (int time = 1; time <= 4; time++) {
                Check.put(x, time == 3 ? 5 : 6, time);
            }
            int t = x.beginAt(start);
            x.write(t, 5, 50L);
            Check.answers("a version of 3 at START " + start, x.commit(t), start < 3 ? SnapshotShelves.CONFLICT : 5);
        }
    }

    private static void conflictWithErasures() {
        anyKey();
        SnapshotShelves x = new SnapshotShelves();
        Check.put(x, 9, 1L);
        int eraser = x.begin();
        int writer = x.begin();
        int both = x.begin();
        x.erase(eraser, 9);
        x.write(writer, 9, 2L);
        x.write(both, 8, 1L);
        x.erase(both, 8);
        Check.remove(x, 9);
        Check.put(x, 8, 3L);
        Check.answers("both erase it", x.commit(eraser), SnapshotShelves.CONFLICT);
        Check.answers("it was erased", x.commit(writer), SnapshotShelves.CONFLICT);
        Check.answers("its own write was erased by itself", x.commit(both), SnapshotShelves.CONFLICT);
    }

    private static void conflictAfterVacuum() {
        anyKey();
        SnapshotShelves x = new SnapshotShelves();
        int t = x.begin();
        x.write(t, 9, 2L);
        Check.put(x, 9, 1L);
        Check.remove(x, 9);
        Check.answers("swept", x.vacuum(), 1);
        Check.answers("the newest is left", x.commit(t), SnapshotShelves.CONFLICT);
    }

    private static void noConflict() {
        anyKey();
        SnapshotShelves x = new SnapshotShelves();
        Check.put(x, 5, 0L);
        int a = x.begin();
        int b = x.begin();
        int takenBack = x.begin();
        x.write(a, 5, 1L);
        x.write(b, 6, 2L);
        x.read(b, 5);
        x.next(b, 0);
        x.write(takenBack, 7, 3L);
        x.write(takenBack, 5, 3L);
        x.rollback(takenBack, 1);
        Check.answers("a version at START", x.commit(a), 2);
        Check.answers("what it only reads has changed", x.commit(b), 3);
        Check.answers("what it took back has changed", x.commit(takenBack), 4);
        int open = x.begin();
        int other = x.begin();
        x.write(open, 5, 4L);
        x.write(other, 5, 5L);
        Check.answers("the other one is not let in yet", x.commit(open), 5);
        Check.answers("versions", Check.shelf(x, 5), " 5=4 2=1 1=0");
    }

    private static void conflictLosesWrites() {
        Check.sentence("Promise 10", "(it is live no more, its writes are lost)");
        SnapshotShelves x = new SnapshotShelves();
        int t = x.begin();
        x.write(t, 4, 1L);
        x.write(t, 5, 2L);
        x.write(t, 6, 2L);
        Check.put(x, 5, 1L);
        Check.answers("commit", x.commit(t), SnapshotShelves.CONFLICT);
        Check.answers("live", x.live(), 0);
        Check.refuses("again", IllegalStateException.class, () -> x.commit(t));
        Check.answers("time", x.time(), 1);
        Check.answers("versions", Check.allVersions(x), 1);
        int next = x.begin();
        Check.answers("what the next one reads", Check.view(x, next), " 5=1");
        Check.answers("and has", x.mark(next), 0);
    }

    private static void otherwise() {
        Check.sentence("Promise 10", "Otherwise TIME grows by 1, each key that it writes gets a version with this "
                + "time and the latest write of it, and the answer is this time.");
    }

    private static void letIn() {
        otherwise();
        SnapshotShelves x = new SnapshotShelves();
        int t = x.begin();
        int old = x.begin();
        for (int key = 4; key < 16; key++) {
            x.write(t, key, key);
        }
        Check.answers("the new time", x.commit(t), 1);
        Check.answers("time", x.time(), 1);
        for (int key = 0; key < 16; key++) {
            Check.answers("versions of " + key, Check.shelf(x, key), key < 4 ? "" : " 1=" + key);
        }
        Check.answers("the live one reads as before", Check.view(x, old), "");
        x.write(old, 3, 33L);
        Check.answers("one behind the other", x.commit(old), 2);
        Check.answers("the version of the second", Check.shelf(x, 3), " 2=33");
    }

    private static void latestWriteOfEachKey() {
        otherwise();
        SnapshotShelves x = new SnapshotShelves();
        Check.put(x, 3, 1L);
        int t = x.begin();
        x.write(t, 1, 10L);
        x.write(t, 2, 20L);
        x.write(t, 1, 11L);
        x.erase(t, 3);
        x.erase(t, 2);
        x.write(t, 4, 40L);
        x.erase(t, 4);
        x.write(t, 4, 41L);
        Check.answers("commit", x.commit(t), 2);
        Check.answers("the latest of two", Check.shelf(x, 1), " 2=11");
        Check.answers("an erasure at last", Check.shelf(x, 2), " 2");
        Check.answers("an erasure before the older one", Check.shelf(x, 3), " 2 1=1");
        Check.answers("written again", Check.shelf(x, 4), " 2=41");
        Check.answers("what the next one reads", Check.view(x, x.begin()), " 1=11 4=41");
    }

    private static void aKeyThatNeverWas() {
        otherwise();
        SnapshotShelves x = new SnapshotShelves();
        int t = x.begin();
        x.write(t, 0, 1L);
        x.erase(t, 0);
        Check.answers("written and erased alone", x.commit(t), 1);
        Check.answers("its erasure is a version", Check.shelf(x, 0), " 1");
    }

    private static void tooMany() {
        Check.sentence("Promise 10", "UnsupportedOperationException if there would be more than 48 versions");
    }

    private static void moreThan48() {
        tooMany();
        for (int before = 35; before <= 37; before++) {
            SnapshotShelves x = withVersions(before);
            int t = x.begin();
            for (int key = 2; key < 14; key++) {
                x.write(t, key, key);
            }
            if (before <= 36) {
                Check.answers("12 more than " + before, x.commit(t), before + 1);
            } else {
                Check.refuses("12 more than " + before, UnsupportedOperationException.class, () -> x.commit(t));
                x.rollback(t, 11);
                Check.answers("11 more than " + before, x.commit(t), before + 1);
            }
            Check.answers("versions in all", Check.allVersions(x), Math.min(48, before + 12));
        }
    }

    private static void keysCountOnceAgainst48() {
        tooMany();
        SnapshotShelves x = withVersions(47);
        int t = x.begin();
        for (int i = 0; i < 11; i++) {
            x.write(t, 10, i);
        }
        x.write(t, 11, 1L);
        Check.refuses("two keys more than 47", UnsupportedOperationException.class, () -> x.commit(t));
        x.rollback(t, 11);
        Check.answers("eleven writes of one key more than 47", x.commit(t), 48);
        int eraser = x.begin();
        x.erase(eraser, 10);
        Check.refuses("an erasure more than 48", UnsupportedOperationException.class, () -> x.commit(eraser));
    }

    private static void staysLive() {
        Check.sentence("Promise 10", "(it stays live then)");
        SnapshotShelves x = withVersions(48);
        int t = x.begin();
        x.write(t, 0, 70L);
        x.write(t, 9, 90L);
        Check.refuses("full", UnsupportedOperationException.class, () -> x.commit(t));
        Check.refuses("and again", UnsupportedOperationException.class, () -> x.commit(t));
        Check.answers("live", x.live(), 1);
        Check.answers("START", x.start(t), 48);
        Check.answers("its writes are there", x.mark(t), 2);
        Check.answers("time", x.time(), 48);
        Check.answers("what it reads", Check.view(x, t), " 0=70 1=46 2=47 9=90");
        Check.answers("swept", x.vacuum(), 45);
        Check.answers("there is room now", x.commit(t), 49);
        Check.answers("let in", Check.shelf(x, 0), " 49=70 46=45");
        Check.answers("let in", Check.shelf(x, 9), " 49=90");
    }

    private static void conflictBeforeTooMany() {
        Check.sentence("Promise 10", "this is not looked at when it would be a CONFLICT");
        SnapshotShelves x = withVersions(47);
        int alone = x.begin();
        int withOthers = x.begin();
        x.write(alone, 15, 1L);
        x.write(withOthers, 14, 1L);
        x.write(withOthers, 15, 1L);
        Check.put(x, 15, 9L);
        Check.answers("with 48 versions", x.commit(alone), SnapshotShelves.CONFLICT);
        Check.answers("at one of two keys", x.commit(withOthers), SnapshotShelves.CONFLICT);
        Check.answers("live", x.live(), 0);
    }

    private static void abortEnds() {
        Check.sentence("Promise 11", "Ends the transaction");
        SnapshotShelves x = new SnapshotShelves();
        int t = x.begin();
        int other = x.begin();
        x.abort(t);
        Check.answers("live", x.live(), 1);
        Check.refuses("aborted again", IllegalStateException.class, () -> x.abort(t));
        Check.refuses("committed", IllegalStateException.class, () -> x.commit(t));
        Check.answers("the other one is live", x.start(other), 0);
    }

    private static void abortLosesWrites() {
        Check.sentence("Promise 11", "its writes are lost");
        SnapshotShelves x = new SnapshotShelves();
        Check.put(x, 1, 1L);
        int t = x.begin();
        int other = x.begin();
        x.write(t, 1, 2L);
        x.write(t, 2, 2L);
        x.write(other, 1, 3L);
        x.abort(t);
        Check.answers("time", x.time(), 1);
        Check.answers("versions", Check.allVersions(x), 1);
        Check.answers("no conflict with them", x.commit(other), 2);
        int next = x.begin();
        Check.answers("what the next one reads", Check.view(x, next), " 1=3");
        Check.answers("and has", x.mark(next), 0);
    }
}
