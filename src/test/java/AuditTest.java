/** Promises 17 and 18: audit, count; and the constant. */
public final class AuditTest {
    private static final int PUT = 0;
    private static final int ADD = 1;
    private static final int GET = 2;

    public static void main(String[] args) {
        Check.same("NONE", OneTrip.NONE, -1);
        auditOfWhatIsDone();
        auditOfGetsAcrossEpochs();
        auditOfACrashedMaster();
        countTellsEach();
        countOfAnotherWhat();
        Check.close("AuditTest");
    }

    private static void auditOfWhatIsDone() {
        OneTrip x = new OneTrip(2, 2, 2, 3);
        int[][] asks = {{PUT, 1, 5}, {ADD, 1, 6}, {GET, 1, 0}, {PUT, 1, 7}, {GET, 1, 0},
            {ADD, 3, 1}, {GET, 2, 0}};
        for (int i = 0; i < asks.length; i++) {
            x.ask(i % 4, asks[i][0], asks[i][1], asks[i][2]);
            Check.same("asked for", x.audit(), 0);
            Check.deliverAll(x);
            Check.same("done", x.client(i % 4, 1), 1);
            Check.same("audit of it", x.audit(), 0);
        }
    }

    private static void auditOfGetsAcrossEpochs() {
        OneTrip x = new OneTrip(2, 2, 2, 10);
        x.ask(0, PUT, 1, 5);
        Check.deliverAll(x);
        x.ask(1, GET, 1, 0);
        x.ask(2, ADD, 1, 1);
        Check.deliverAll(x);
        Check.same("get beside an add", x.client(1, 2), 5);
        x.decide(1, 1);
        Check.same("the new master's log", x.audit(), 0);
        for (int c = 0; c < 4; c++) {
            x.learn(c);
        }
        x.ask(1, GET, 1, 0);
        Check.deliverAll(x);
        Check.same("get behind the add", x.client(1, 2), 6);
        Check.same("audit", x.audit(), 0);
    }

    private static void auditOfACrashedMaster() {
        OneTrip x = new OneTrip(1, 2, 2, 10);
        x.ask(0, PUT, 1, 5);
        Check.deliverAll(x);
        x.crash(0);
        Check.same("crashed", x.audit(), 0);
        x.decide(0, 0);
        Check.same("risen", x.audit(), 0);
    }

    private static void countTellsEach() {
        OneTrip x = new OneTrip(2, 3, 4, 5);
        x.ask(0, PUT, 1, 5);
        x.ask(1, PUT, 2, 5);
        x.ask(1, PUT, 2, 5);
        int[] asked = {6, 1, 2, 0, 0, 2, 3, 4, 5};
        for (int what = 0; what < asked.length; what++) {
            Check.same("count(" + what + ")", x.count(what), asked[what]);
        }
        Check.deliverAll(x);
        x.decide(0, 0);
        x.ask(0, GET, 1, 5);
        int[] done = {1, 2, 3, 2, 0, 2, 3, 4, 5};
        for (int what = 0; what < done.length; what++) {
            Check.same("later, count(" + what + ")", x.count(what), done[what]);
        }
        for (int i = 0; i < 130; i++) {
            x.sync(0);
        }
        Check.same("full", x.count(0), 250);
        Check.same("lost because the row was full", x.count(4), 11);
        x.lose(0);
        Check.same("lost by lose() count not", x.count(4), 11);
    }

    private static void countOfAnotherWhat() {
        OneTrip x = new OneTrip(2, 3, 4, 5);
        Check.same("-1", x.count(-1), OneTrip.NONE);
        Check.same("9", x.count(9), OneTrip.NONE);
        Check.same("far", x.count(Integer.MIN_VALUE), OneTrip.NONE);
    }
}
