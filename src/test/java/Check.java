import java.util.ArrayList;
import java.util.Arrays;
import java.util.List;

/** Counts the answers that were due and those that were not. */
final class Check {
    interface Call {
        int run();
    }

    static final int INDEX = -1001;
    static final int ARGUMENT = -1002;
    static final int UNSUPPORTED = -1003;

    static final int PUT = 0;
    static final int ADD = 1;
    static final int GET = 2;

    static final int EXEC = 0;
    static final int RECORD = 1;
    static final int ANSWER = 2;
    static final int ACCEPT = 3;
    static final int REJECT = 4;
    static final int SYNCNOW = 5;
    static final int SYNC = 6;
    static final int ACK = 7;
    static final int GC = 8;
    static final int RESET = 9;

    /** Numbers that are none of anything: below 0, just above the greatest bound, far away. */
    private static final int[] FAR = {-1, -2, Integer.MIN_VALUE, 1000, Integer.MAX_VALUE};

    private static int passed;
    private static int failed;

    private Check() { }

    static void same(String what, Object got, Object due) {
        if (got.equals(due)) {
            passed++;
        } else {
            failed++;
            System.out.println(what + ": got " + got + ", due is " + due);
        }
    }

    /** The answers of the row's letters: kind, epoch, who and number, four to a letter. */
    static void letters(String what, OneTrip trip, int... due) {
        int[] got = new int[trip.count(0) * 4];
        for (int i = 0; i < got.length; i++) {
            got[i] = trip.letter(i / 4, i % 4);
        }
        same(what, Arrays.toString(got), Arrays.toString(due));
    }

    /** The same, of the letters that the row has had come since it had so many. */
    static void lettersFrom(int first, String what, OneTrip trip, int... due) {
        int[] got = new int[Math.max(0, trip.count(0) - first) * 4];
        for (int i = 0; i < got.length; i++) {
            got[i] = trip.letter(first + i / 4, i % 4);
        }
        same(what, Arrays.toString(got), Arrays.toString(due));
    }

    static void client(String what, OneTrip trip, int client, int... due) {
        for (int i = 0; i < due.length; i++) {
            same(what + ", client(" + client + ", " + i + ")", trip.client(client, i), due[i]);
        }
    }

    static void master(String what, OneTrip trip, int epoch, int... due) {
        for (int i = 0; i < due.length; i++) {
            same(what + ", master(" + epoch + ", " + i + ")", trip.master(epoch, i), due[i]);
        }
    }

    static void backup(String what, OneTrip trip, int backup, int... due) {
        for (int i = 0; i < due.length; i++) {
            same(what + ", backup(" + backup + ", " + i + ")", trip.backup(backup, i), due[i]);
        }
    }

    static void witness(String what, OneTrip trip, int witness, int... due) {
        for (int i = 0; i < due.length; i++) {
            same(what + ", witness(" + witness + ", " + i + ")", trip.witness(witness, i), due[i]);
        }
    }

    /** The answer, or a number that stands for the very exception that was thrown. */
    static int outcome(Call call) {
        try {
            return call.run();
        } catch (RuntimeException e) {
            same("thrown by a throw statement: " + e, isThrownByCode(e), true);
            if (e.getClass() == IndexOutOfBoundsException.class) {
                return INDEX;
            }
            if (e.getClass() == IllegalArgumentException.class) {
                return ARGUMENT;
            }
            if (e.getClass() == UnsupportedOperationException.class) {
                return UNSUPPORTED;
            }
            throw e;
        }
    }

    /** Neither by the Java machine nor by the library, whose exceptions begin elsewhere. */
    private static boolean isThrownByCode(RuntimeException e) {
        StackTraceElement[] trace = e.getStackTrace();
        if (trace.length == 0) {
            return false;
        }
        String thrower = trace[0].getClassName();
        return thrower.startsWith("OneTrip") || thrower.startsWith("PlainModel");
    }

    static void outOfBounds(String what, OneTrip trip, Call call) {
        changesNothing(what, trip, INDEX, call);
    }

    static void badArgument(String what, OneTrip trip, Call call) {
        changesNothing(what, trip, ARGUMENT, call);
    }

    /** A call that is refused, or answers NONE or false, and leaves all that the object shows. */
    static void changesNothing(String what, OneTrip trip, int due, Call call) {
        List<Integer> before = shows(trip);
        same(what, outcome(call), due);
        same(what + ": it changed nothing", shows(trip), before);
    }

    /** Numbers that none of so many has. */
    static int[] noneOf(int size) {
        int[] all = Arrays.copyOf(FAR, FAR.length + 2);
        all[FAR.length] = size;
        all[FAR.length + 1] = size + 1;
        return all;
    }

    /** Every answer that the object gives without being changed, in a fixed order. */
    static List<Integer> shows(OneTrip x) {
        List<Integer> all = new ArrayList<>();
        for (int k = 0; k < x.count(0); k++) {
            for (int what = 0; what < 4; what++) {
                all.add(x.letter(k, what));
            }
        }
        for (int c = 0; c < 4; c++) {
            for (int what = 0; what < 7; what++) {
                all.add(x.client(c, what));
            }
        }
        for (int e = 0; e < x.count(1); e++) {
            for (int what = 0; what < 5; what++) {
                all.add(x.master(e, what));
            }
            for (int key = 0; key < 16; key++) {
                all.add(x.value(e, key));
            }
        }
        for (int b = 0; b < x.count(5); b++) {
            all.add(x.backup(b, 0));
            all.add(x.backup(b, 1));
        }
        for (int w = 0; w < x.count(5); w++) {
            for (int what = 0; what < 4; what++) {
                all.add(x.witness(w, what));
            }
        }
        all.add(x.audit());
        for (int what = 0; what < 9; what++) {
            all.add(x.count(what));
        }
        return all;
    }

    /** Delivers the first letter till none is on its way. */
    static void deliverAll(OneTrip trip) {
        for (int i = 0; i < 10_000 && trip.count(0) > 0; i++) {
            trip.deliver(0);
        }
        same("letters left", trip.count(0), 0);
    }

    /** Delivers the first letter of a kind, or counts a failure if there is none. */
    static int deliverKind(OneTrip trip, int kind) {
        for (int k = 0; k < trip.count(0); k++) {
            if (trip.letter(k, 0) == kind) {
                return trip.deliver(k);
            }
        }
        same("a letter of kind " + kind + " on its way", false, true);
        return -1;
    }

    /** The place of the first letter of a kind to one (of EXEC, SYNCNOW, ACK: from one), or -1. */
    static int find(OneTrip trip, int kind, int who) {
        for (int k = 0; k < trip.count(0); k++) {
            if (trip.letter(k, 0) == kind && trip.letter(k, 2) == who) {
                return k;
            }
        }
        return -1;
    }

    /** How many letters of a kind are on their way. */
    static int many(OneTrip trip, int kind) {
        int many = 0;
        for (int k = 0; k < trip.count(0); k++) {
            if (trip.letter(k, 0) == kind) {
                many++;
            }
        }
        return many;
    }

    /** Delivers the first letter of a kind to one, or counts a failure if there is none. */
    static void deliver(OneTrip trip, int kind, int who) {
        int k = find(trip, kind, who);
        same("a letter of kind " + kind + " of " + who + " on its way", k >= 0, true);
        if (k >= 0) {
            trip.deliver(k);
        }
    }

    static void lose(OneTrip trip, int kind, int who) {
        int k = find(trip, kind, who);
        same("a letter of kind " + kind + " of " + who + " to lose", k >= 0, true);
        if (k >= 0) {
            trip.lose(k);
        }
    }

    static void loseAll(OneTrip trip) {
        while (trip.count(0) > 0) {
            trip.lose(0);
        }
    }

    static void loseEach(OneTrip trip, int kind) {
        for (int k = trip.count(0) - 1; k >= 0; k--) {
            if (trip.letter(k, 0) == kind) {
                trip.lose(k);
            }
        }
    }

    /** Only letters of that kind stay on their way. */
    static void keepOnly(OneTrip trip, int kind) {
        for (int k = trip.count(0) - 1; k >= 0; k--) {
            if (trip.letter(k, 0) != kind) {
                trip.lose(k);
            }
        }
    }

    /** The backup reads the first SYNC to it, and the master its ACK. */
    static void syncAndAck(OneTrip trip, int backup) {
        deliver(trip, SYNC, backup);
        deliver(trip, ACK, backup);
    }

    /** Asks, has all delivered, and tells what the client was told. */
    static int told(OneTrip trip, int client, int what, int key, int v) {
        trip.ask(client, what, key, v);
        deliverAll(trip);
        same("it is done", trip.client(client, 1), 1);
        return trip.client(client, 2);
    }

    static int asBit(boolean yes) {
        return yes ? 1 : 0;
    }

    static void close(String name) {
        System.out.println(name + ": " + passed + " passed, " + failed + " failed");
        System.out.flush();
        if (failed > 0) {
            System.exit(1);
        }
    }
}
