import java.util.function.IntUnaryOperator;

/** Tries every argument around a range, and those that are far away. */
final class Ranges {
    private static final int AROUND = 70;
    private static final int[] FAR = {Integer.MIN_VALUE, Integer.MIN_VALUE + 1, -65536, -256, 255, 256, 65536, 1 << 30,
        Integer.MAX_VALUE - 1, Integer.MAX_VALUE};

    private Ranges() {
    }

    /** Checks that the call answers the error for each argument outside low to high, and no error for each one inside. */
    static void errorOutside(Checks checks, String call, IntUnaryOperator answer, int low, int high, int error) {
        for (int argument = low - AROUND; argument <= high + AROUND; argument++) {
            check(checks, call, answer, argument, low, high, error);
        }
        for (int argument : FAR) {
            check(checks, call, answer, argument, low, high, error);
        }
    }

    private static void check(Checks checks, String call, IntUnaryOperator answer, int argument, int low, int high, int error) {
        int got = answer.applyAsInt(argument);
        String what = call + " with " + argument;
        if (argument < low || argument > high) {
            checks.due(what, got, error);
        } else {
            checks.holds(what + " is allowed, but it answered " + got, got >= 0);
        }
    }
}
