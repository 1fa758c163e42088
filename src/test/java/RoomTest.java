import com.sun.management.ThreadMXBean;
import java.lang.management.ManagementFactory;

/**
 * All calls of one run live in one room of some 600,000 objects and 7.3 million fields and
 * elements. An object takes 16 bytes or more and a field or element one or more, so that a run
 * which takes fewer bytes than MOST_BYTES in all keeps within both.
 */
public final class RoomTest {
    private static final long MOST_BYTES = 7_300_000;
    private static final int CALLS = 512;
    private static final int PUT = Check.PUT;
    private static final int GET = Check.GET;

    interface Run {
        void call(OneTrip x, int call);
    }

    public static void main(String[] args) {
        ThreadMXBean threads = (ThreadMXBean) ManagementFactory.getThreadMXBean();
        long thread = Thread.currentThread().getId();
        String[] names = {"letters", "many epochs with long logs", "gets that wait"};
        int[] faults = {3, 1, 3};
        Run[] runs = {RoomTest::letters, RoomTest::longLogs, RoomTest::gets};
        for (int i = 0; i < runs.length; i++) {
            long before = threads.getThreadAllocatedBytes(thread);
            OneTrip x = new OneTrip(faults[i], 4, 4, 1 + 9 * (i % 2));
            for (int call = 0; call < CALLS; call++) {
                runs[i].call(x, call);
            }
            long took = threads.getThreadAllocatedBytes(thread) - before;
            Check.same("bytes are counted", before > 0 && took > 0, true);
            Check.same(names[i] + " took " + took + " bytes", took < MOST_BYTES, true);
            System.out.println(names[i] + ": " + took + " bytes, " + x.master(x.count(1) - 1, 1)
                    + " in the last log, " + x.count(4) + " letters too many");
        }
        Check.close("RoomTest");
    }

    /** As many letters a call as there can be: the epoch is settled, so that sync sends six. */
    private static void letters(OneTrip x, int call) {
        if (call == 0) {
            x.decide(0, 0);
        } else if (x.count(0) > 0 && call < 20) {
            x.deliver(0);
        } else {
            x.sync(1);
        }
    }

    /** The log grows as fast as it can; the last eleven calls let new masters rise from it. */
    private static void longLogs(OneTrip x, int call) {
        if (call >= CALLS - 11) {
            x.decide(0, 0);
        } else if (x.count(0) > 0) {
            x.deliver(0);
        } else {
            x.ask(0, PUT, x.count(2) % 16, call);
        }
    }

    /** Gets that wait are read again and again; each time SYNC is sent to all. */
    private static void gets(OneTrip x, int call) {
        int k = Check.find(x, Check.EXEC, call / 3 % 4);
        if (k < 0) {
            x.ask(call / 3 % 4, GET, call % 16, 0);
            x.retry(call / 3 % 4);
        } else if (call % 3 == 0) {
            x.twice(k);
        } else {
            x.deliver(k);
        }
        if (x.count(0) > 240) {
            x.lose(239);
        }
    }
}
