import java.util.NoSuchElementException;
import java.util.function.LongSupplier;

/** What the tests share that are written by hand: counting, texts, calls that are refused. */
abstract class Checks {
    static final Class<?> WRONG = IllegalArgumentException.class;
    static final Class<?> NO_ROAD = IndexOutOfBoundsException.class;
    static final Class<?> NO_GOING = NoSuchElementException.class;
    static final Class<?> NO_ROW = IllegalStateException.class;

    static int passed = 0;
    static int failed = 0;
    /** What is told with a failure. */
    static String where = "";

    static void check(boolean good, String what) {
        if (good) {
            passed++;
            return;
        }
        failed++;
        System.out.println(where + ", line " + line() + ": " + what);
    }

    static void due(long want, long got) {
        check(got == want, "answered " + got + ", due is " + want);
    }

    static void refused(Class<?> why, LongSupplier call) {
        String got = answer(call);
        check(got.equals(why.getName()), got + ", due is " + why.getName());
    }

    /** What a call answers, or the name of what it throws. */
    static String answer(LongSupplier call) {
        try {
            return "answer " + call.getAsLong();
        } catch (RuntimeException e) {
            return e.getClass().getName();
        }
    }

    /** Of the test that asks, not of what helps it. */
    private static int line() {
        for (StackTraceElement e : new Throwable().getStackTrace()) {
            if (e.getClassName().endsWith("Test")) return e.getLineNumber();
        }
        return 0;
    }

    static int feed(MendingRoads x, String text) {
        StringBuilder t = new StringBuilder(text);
        while (t.length() % 20 != 0) t.append((char) 0);
        int answer = 0;
        for (int i = 0; i < t.length(); i += 20) {
            int[] n = new int[5];
            for (int j = 0; j < 20; j++) n[j / 4] = n[j / 4] << 8 | t.charAt(i + j);
            answer = x.feed(n[0], n[1], n[2], n[3], n[4]);
        }
        return answer;
    }

    static int tell(MendingRoads x, String text) {
        feed(x, text);
        return x.land(text.length());
    }

    /** A new object with a land that has no fault. */
    static MendingRoads of(String text) {
        MendingRoads x = new MendingRoads();
        int answer = tell(x, text);
        check(answer >= 0, "the text <" + text + "> has fault " + answer + " at " + x.fault());
        return x;
    }

    static void end() {
        System.out.println(passed + " passed, " + failed + " failed");
        if (failed != 0) System.exit(1);
    }
}
