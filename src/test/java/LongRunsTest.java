import java.lang.reflect.InvocationTargetException;
import java.lang.reflect.Method;
import java.util.ArrayList;
import java.util.Arrays;
import java.util.List;
import java.util.Random;
import java.util.Set;
import java.util.TreeSet;

/** All promises: runs of 512 calls, right and wrong ones, each answered as the model answers it. */
public final class LongRunsTest {
    private static final int RUNS = 600;
    private static final int CALLS = 512;

    /** What the runs are mixed of: all calls, long transactions, and short ones that fill the shelves. */
    private static final String[][] MIXES = {
        {"begin", "beginAt", "write", "write", "write", "write", "write", "erase", "commit", "read", "next", "mark",
            "rollback", "abort", "vacuum", "time", "live", "start", "versions", "timeOf", "valueOf"},
        {"begin", "begin", "begin", "beginAt", "beginAt", "write", "write", "write", "write", "erase", "erase",
            "commit", "commit", "read", "next", "versions", "timeOf", "valueOf", "rollback"},
        {"begin", "begin", "write", "write", "write", "erase", "commit", "commit", "beginAt", "valueOf"}};

    /** Every outcome that the document names for a call; the runs must meet each. */
    private static final List<String> OUTCOMES = List.of(
            "begin answers", "begin UnsupportedOperationException",
            "beginAt answers", "beginAt IllegalArgumentException", "beginAt UnsupportedOperationException",
            "read answers", "read IllegalStateException", "read IllegalArgumentException",
            "read NoSuchElementException",
            "write answers", "write IllegalStateException", "write IllegalArgumentException",
            "write UnsupportedOperationException",
            "erase answers", "erase IllegalStateException", "erase IllegalArgumentException",
            "erase NoSuchElementException", "erase UnsupportedOperationException",
            "mark answers", "mark IllegalStateException",
            "rollback answers", "rollback IllegalStateException", "rollback IllegalArgumentException",
            "next answers", "next -1", "next IllegalStateException", "next IllegalArgumentException",
            "commit answers", "commit -1", "commit IllegalStateException", "commit UnsupportedOperationException",
            "abort answers", "abort IllegalStateException", "vacuum answers", "time answers", "live answers",
            "start answers", "start IllegalStateException", "versions answers", "versions IllegalArgumentException",
            "timeOf answers", "timeOf IllegalArgumentException", "timeOf NoSuchElementException",
            "valueOf answers", "valueOf IllegalArgumentException", "valueOf NoSuchElementException");

    private final Random random;
    private final String[] calls;
    private final int keys;
    private final SnapshotShelves x = new SnapshotShelves();
    private final Model model = new Model();
    private final Set<String> met;
    private int begun = 0;

    private LongRunsTest(int seed, Set<String> met) {
        this.random = new Random(seed);
        this.calls = MIXES[seed % MIXES.length];
        this.keys = 1 + seed % 16;
        this.met = met;
    }

    public static void main(String[] args) throws ReflectiveOperationException {
        Check.sentence("What it is", "An object is used for at most 512 calls after it has been made");
        Set<String> met = new TreeSet<>();
        for (int seed = 0; seed < RUNS; seed++) {
            new LongRunsTest(seed, met).run(seed);
        }
        List<String> missed = new ArrayList<>(OUTCOMES);
        missed.removeAll(met);
        Check.answers("outcomes that no run met", missed, List.of());
        Check.end();
    }

    private void run(int seed) throws ReflectiveOperationException {
        boolean same = true;
        for (int i = 0; i < CALLS && same; i++) {
            String call = calls[random.nextInt(calls.length)];
            Object[] arguments = arguments(call);
            String due = outcome(model, call, arguments);
            String got = outcome(x, call, arguments);
            remember(call, due);
            Check.answers("run " + seed + ", call " + i + ": " + call + Arrays.toString(arguments), got, due);
            same = got.equals(due);
        }
    }

    private void remember(String call, String due) {
        boolean answered = !due.endsWith("Exception");
        met.add(call + " " + (answered && !due.equals("-1") ? "answers" : due));
        if (call.startsWith("begin") && answered) {
            begun++;
        }
    }

    private static String outcome(Object on, String call, Object[] arguments) throws ReflectiveOperationException {
        try {
            return String.valueOf(named(on.getClass(), call).invoke(on, arguments));
        } catch (InvocationTargetException e) {
            return e.getCause().getClass().getSimpleName();
        }
    }

    private static Method named(Class<?> type, String call) throws NoSuchMethodException {
        for (Method m : type.getDeclaredMethods()) {
            if (m.getName().equals(call)) {
                return m;
            }
        }
        throw new NoSuchMethodException(call);
    }

    private Object[] arguments(String call) {
        switch (call) {
            case "beginAt":
                return new Object[] {model.time() + 1 - someCount()};
            case "read": case "erase": case "next":
                return new Object[] {someNumber(), someKey()};
            case "write":
                return new Object[] {someNumber(), someKey(), someValue()};
            case "rollback":
                return new Object[] {someNumber(), someCount()};
            case "mark": case "commit": case "abort": case "start":
                return new Object[] {someNumber()};
            case "versions":
                return new Object[] {someKey()};
            case "timeOf": case "valueOf":
                return new Object[] {someKey(), someCount()};
            default:
                return new Object[] {};
        }
    }

    /** Mostly the number of a live transaction, so that the runs get somewhere. */
    private int someNumber() {
        if (random.nextInt(12) == 0) {
            return random.nextInt(4) == 0 ? random.nextInt() : random.nextInt(begun + 3) - 1;
        }
        List<Integer> live = model.liveNumbers();
        return live.isEmpty() ? begun : live.get(random.nextInt(live.size()));
    }

    private int someKey() {
        if (random.nextInt(25) == 0) {
            return random.nextInt(4) == 0 ? random.nextInt() : random.nextBoolean() ? -1 : 16;
        }
        return random.nextInt(keys);
    }

    private int someCount() {
        return random.nextInt(20) == 0 ? random.nextInt() : random.nextInt(15) - 1;
    }

    private long someValue() {
        return random.nextBoolean() ? random.nextLong() : random.nextInt(5);
    }
}
