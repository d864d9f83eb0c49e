import java.util.function.Supplier;
import java.util.function.ToIntFunction;

/** Looks at calls that must be refused, and at both ends of an argument's range. */
final class Calls {
    interface WithValue {
        int on(NewsFlood x, int value);
    }

    private static final int MIN = Integer.MIN_VALUE;
    private static final int MAX = Integer.MAX_VALUE;
    /** Codes are counted in this order, and so the digest has them. */
    private static final int FIRST_CODE = -2;

    private Calls() {
    }

    /** Every value from low to high is taken, and those just outside and far away are refused. */
    static void range(Due due, String call, Supplier<NewsFlood> made, WithValue method, int low, int high) {
        for (int value = low; value <= high; value++) {
            NewsFlood x = made.get();
            int before = x.errorCount(-2);
            due.isTrue(call + " with " + value + " is not refused", method.on(x, value) != -2);
            due.is(call + " with " + value + ", errorCount(-2)", x.errorCount(-2), before);
        }
        int[] outside = {low - 1, high + 1, low - 2, high + 2, low - 32, high + 32, high + 33, low + 64,
            low - 256, low + 256, low + 65536, MIN, MIN + 1, MAX - 1, MAX};
        for (int value : outside) {
            refused(due, call + " with " + value, made, x -> method.on(x, value), -2);
        }
    }

    /** The call answers the code and changes nothing but the counter of the code. */
    static void refused(Due due, String call, Supplier<NewsFlood> made, ToIntFunction<NewsFlood> method, int code) {
        Three settled = new Three(due, call + " = " + code, made, method, code);
        settled.compare();
        settled.each(NewsFlood::settle);
        settled.compare();
        Three undone = new Three(due, call + " = " + code, made, method, code);
        for (int i = 0; i < 5; i++) {
            undone.each(NewsFlood::undo);
            undone.compare();
            // The digest tells how many transfers wait, but only a round tells which.
            undone.each(NewsFlood::settle);
            undone.compare();
            undone.each(NewsFlood::undo);
        }
    }

    /** The object that was called, one that was not, and one whose counter of OUT_OF_RANGE is higher by 1. */
    private static final class Three {
        private final Due due;
        private final String call;
        private final NewsFlood called;
        private final NewsFlood untouched;
        private final NewsFlood counted;
        /** How much more a count of OUT_OF_RANGE weighs in a digest than one of the code. */
        private long ratio = 1;

        Three(Due due, String call, Supplier<NewsFlood> made, ToIntFunction<NewsFlood> method, int code) {
            this.due = due;
            this.call = call;
            called = made.get();
            untouched = made.get();
            counted = made.get();
            due.is(call, method.applyAsInt(called), code);
            counted.errorCount(0);
            for (int i = code; i < FIRST_CODE; i++) {
                ratio *= 31;
            }
        }

        void each(ToIntFunction<NewsFlood> method) {
            int want = method.applyAsInt(untouched);
            due.is(call + ", a later call", method.applyAsInt(called), want);
            due.is(call + ", a later call beside it", method.applyAsInt(counted), want);
        }

        void compare() {
            long change = called.digest() - untouched.digest();
            due.is(call + ", what it changed", ratio * change, counted.digest() - untouched.digest());
        }
    }
}
