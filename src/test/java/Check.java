import java.util.NoSuchElementException;

/** What the tests share: answers and exceptions are compared, and what is wrong is counted and printed. */
final class Check {
    interface Call {
        void run();
    }

    private static int wrong = 0;
    private static int checks = 0;

    private Check() {
    }

    static void answers(String what, Object got, Object due) {
        checks++;
        if (!due.equals(got)) {
            wrong++;
            System.out.println(what + ": got " + got + ", due is " + due);
        }
    }

    static void answers(String what, long got, long due) {
        answers(what, (Object) got, (Object) due);
    }

    /** The call throws this very exception. That it changes nothing is for RefusedCallsTest to show. */
    static void refuses(String what, Class<? extends RuntimeException> due, Call call) {
        answers(what + " throws", thrownBy(call), due.getSimpleName());
    }

    static String thrownBy(Call call) {
        try {
            call.run();
        } catch (RuntimeException e) {
            return e.getClass().getSimpleName();
        }
        return "nothing";
    }

    /** What a transaction reads: key=value for each key with something. */
    static String view(SnapshotShelves x, int t) {
        StringBuilder text = new StringBuilder();
        for (int key = 0; key < 16; key++) {
            try {
                long value = x.read(t, key);
                text.append(' ').append(key).append('=').append(value);
            } catch (NoSuchElementException e) {
                continue;
            }
        }
        return text.toString();
    }

    /** Lets in one write, so that TIME grows by 1; answers the new time. */
    static int put(SnapshotShelves x, int key, long value) {
        int t = x.begin();
        x.write(t, key, value);
        return x.commit(t);
    }

    /** Lets in one erasure; answers the new time. */
    static int remove(SnapshotShelves x, int key) {
        int t = x.begin();
        x.erase(t, key);
        return x.commit(t);
    }

    /** Each test's main method ends with this. */
    static void end() {
        System.out.println(wrong == 0 ? checks + " checks passed" : wrong + " of " + checks + " checks failed");
        if (wrong != 0 || checks == 0) {
            System.exit(1);
        }
    }
}
