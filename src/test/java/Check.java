import java.util.Arrays;

/** Counts the answers that were due and those that were not. */
final class Check {
    interface Call {
        int run();
    }

    static final int INDEX = -1001;
    static final int ARGUMENT = -1002;
    static final int UNSUPPORTED = -1003;

    private static int passed;
    private static int failed;

    private Check() { }

    static void same(String what, Object got, Object due) {
        if (got.equals(due)) {
            passed++;
        } else {
            failed++;
            System.out.println(what + ": got " + got + ", due is " + due);
        }
    }

    /** The answers of the row's letters: kind, epoch, who and number, four to a letter. */
    static void letters(String what, OneTrip trip, int... due) {
        int[] got = new int[trip.count(0) * 4];
        for (int i = 0; i < got.length; i++) {
            got[i] = trip.letter(i / 4, i % 4);
        }
        same(what, Arrays.toString(got), Arrays.toString(due));
    }

    /** The answer, or a number that stands for the very exception that was thrown. */
    static int outcome(Call call) {
        try {
            return call.run();
        } catch (RuntimeException e) {
            if (e.getClass() == IndexOutOfBoundsException.class) {
                return INDEX;
            }
            if (e.getClass() == IllegalArgumentException.class) {
                return ARGUMENT;
            }
            if (e.getClass() == UnsupportedOperationException.class) {
                return UNSUPPORTED;
            }
            throw e;
        }
    }

    static void outOfBounds(String what, Call call) {
        same(what, outcome(call), INDEX);
    }

    static void badArgument(String what, Call call) {
        same(what, outcome(call), ARGUMENT);
    }

    /** Delivers the first letter till none is on its way. */
    static void deliverAll(OneTrip trip) {
        for (int i = 0; i < 10_000 && trip.count(0) > 0; i++) {
            trip.deliver(0);
        }
        same("letters left", trip.count(0), 0);
    }

    /** Delivers the first letter of a kind, or counts a failure if there is none. */
    static int deliverKind(OneTrip trip, int kind) {
        for (int k = 0; k < trip.count(0); k++) {
            if (trip.letter(k, 0) == kind) {
                return trip.deliver(k);
            }
        }
        same("a letter of kind " + kind + " on its way", false, true);
        return -1;
    }

    static void loseAll(OneTrip trip) {
        while (trip.count(0) > 0) {
            trip.lose(0);
        }
    }

    static void close(String name) {
        System.out.println(name + ": " + passed + " passed, " + failed + " failed");
        System.out.flush();
        if (failed > 0) {
            System.exit(1);
        }
    }
}
