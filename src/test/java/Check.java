import java.util.NoSuchElementException;

/** What the tests share: answers and exceptions are compared, and what is wrong is counted and printed. */
final class Check {
    interface Call {
        void run();
    }

    private static String sentence = "";
    private static int wrong = 0;
    private static int checks = 0;

    private Check() {
    }

    /** Runs the tests of a class, each by itself: one that an exception stops has failed, and the next one follows. */
    static void all(Call... tests) {
        for (Call test : tests) {
            sentence = "";
            try {
                test.run();
            } catch (RuntimeException e) {
                wrong++;
                System.out.println(sentence + " stopped by an exception that is not due:");
                e.printStackTrace(System.out);
            }
        }
        end();
    }

    /** Names the words of the document that the checks after this are for, so that a failure tells which broke. */
    static void sentence(String section, String words) {
        sentence = section + ": \"" + words + "\"";
    }

    static void answers(String what, Object got, Object due) {
        checks++;
        if (!due.equals(got)) {
            wrong++;
            System.out.println(sentence + " " + what + ": got " + got + ", due is " + due);
        }
    }

    static void answers(String what, long got, long due) {
        answers(what, (Object) got, (Object) due);
    }

    /** The call throws this very exception. That it changes nothing is for RefusedCallsTest to show. */
    static void refuses(String what, Class<? extends RuntimeException> due, Call call) {
        answers(what + " throws", thrownBy(call), due.getSimpleName());
    }

    static void accepts(String what, Call call) {
        answers(what + " throws", thrownBy(call), "nothing");
    }

    static String thrownBy(Call call) {
        try {
            call.run();
        } catch (RuntimeException e) {
            return e.getClass().getSimpleName();
        }
        return "nothing";
    }

    /** What a transaction reads: key=value for each key with something. */
    static String view(SnapshotShelves x, int t) {
        StringBuilder text = new StringBuilder();
        for (int key = 0; key < 16; key++) {
            try {
                long value = x.read(t, key);
                text.append(' ').append(key).append('=').append(value);
            } catch (NoSuchElementException e) {
                continue;
            }
        }
        return text.toString();
    }

    /** A key's versions, the newest first: time=value, or time alone for an erasure. */
    static String shelf(SnapshotShelves x, int key) {
        StringBuilder text = new StringBuilder();
        int count = x.versions(key);
        for (int k = 0; k < count; k++) {
            text.append(' ').append(x.timeOf(key, k));
            try {
                long value = x.valueOf(key, k);
                text.append('=').append(value);
            } catch (NoSuchElementException e) {
                continue;
            }
        }
        return text.toString();
    }

    static int allVersions(SnapshotShelves x) {
        int count = 0;
        for (int key = 0; key < 16; key++) {
            count += x.versions(key);
        }
        return count;
    }

    /** Lets in one write, so that TIME grows by 1; answers the new time. */
    static int put(SnapshotShelves x, int key, long value) {
        return putAll(x, key, key, value);
    }

    /** Lets in a write of the same value for each of these keys; answers the new time. */
    static int putAll(SnapshotShelves x, int first, int last, long value) {
        int t = x.begin();
        for (int key = first; key <= last; key++) {
            x.write(t, key, value);
        }
        return x.commit(t);
    }

    /** Lets in one erasure; answers the new time. */
    static int remove(SnapshotShelves x, int key) {
        int t = x.begin();
        x.erase(t, key);
        return x.commit(t);
    }

    /** The main method of each test ends with this, or with all(), which ends with it. */
    static void end() {
        System.out.println(wrong == 0 ? checks + " checks passed" : wrong + " faults in " + checks + " checks");
        if (wrong != 0 || checks == 0) {
            System.exit(1);
        }
    }
}
