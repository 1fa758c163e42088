/** Promises 5 to 7 and 11: deliver with all that letters do, lose, twice, letter. */
public final class LetterTest {
    private static final int PUT = 0;
    private static final int ADD = 1;
    private static final int GET = 2;

    private static final int EXEC = 0;
    private static final int RECORD = 1;
    private static final int ANSWER = 2;
    private static final int ACCEPT = 3;
    private static final int REJECT = 4;
    private static final int SYNCNOW = 5;
    private static final int SYNC = 6;
    private static final int ACK = 7;
    private static final int GC = 8;
    private static final int RESET = 9;

    public static void main(String[] args) {
        theRowKeepsItsOrder();
        theRowIsFullAt250();
        aDoubledLetterIsLostInAFullRow();
        rowCallsRefuse();
        letterTellsEachKind();
        letterRefuses();
        execOfAKnownUpdate();
        execBehindAGreaterNumber();
        execIsLateByItsKey();
        execSyncsAtTheBatch();
        execOfAGetWaitsOnce();
        execAtACrashedMaster();
        syncAtABackup();
        syncIsToldAsItWasSent();
        ackKnowsTheGreatest();
        ackAnswersTheLateInOrder();
        ackConfirmsGetsByTheCount();
        ackAnswersGetsBehindTheirPlace();
        ackSettlesOnce();
        recordsCommute();
        recordsFillTheirSet();
        recordsNeedTheEpoch();
        gcDropsWhatIsSynced();
        resetAtAWitness();
        answersNeedEpochAndNumber();
        rejectAsksForASync();
        syncNowAtAMaster();
        Check.close("LetterTest");
    }

    private static OneTrip small() {
        return new OneTrip(1, 1, 1, 10);
    }

    private static void theRowKeepsItsOrder() {
        OneTrip x = new OneTrip(2, 1, 1, 10);
        x.ask(0, PUT, 1, 5);
        x.ask(1, GET, 1, 0);
        Check.same("lose the middle one", x.lose(1), 3);
        Check.letters("the rest", x, 0, 0, 0, 1, 1, 0, 1, 1, 0, 0, 1, 1);
        Check.same("twice the first", x.twice(0), 4);
        Check.letters("once more at the end", x, 0, 0, 0, 1, 1, 0, 1, 1, 0, 0, 1, 1, 0, 0, 0, 1);
        Check.same("deliver the second: accept at the end", x.deliver(1), 4);
        Check.letters("its reply at the end", x, 0, 0, 0, 1, 0, 0, 1, 1, 0, 0, 0, 1, 3, 0, 0, 1);
        Check.same("lost ones are not too many", x.count(4), 0);
        Check.same("lose the last", x.lose(3), 3);
    }

    private static void fill(OneTrip x, int upTo) {
        for (int i = 0; i < 300 && x.count(0) + x.count(5) <= upTo; i++) {
            x.sync(0);
        }
    }

    private static void theRowIsFullAt250() {
        OneTrip x = new OneTrip(3, 1, 1, 10);
        fill(x, 250);
        Check.same("83 syncs of three", x.count(0), 249);
        Check.same("none lost", x.count(4), 0);
        x.sync(0);
        Check.same("one more", x.count(0), 250);
        Check.same("it is the first of the three", x.letter(249, 2), 0);
        Check.same("two lost", x.count(4), 2);
        x.ask(0, PUT, 0, 0);
        Check.same("four more lost", x.count(4), 6);
        Check.same("still full", x.count(0), 250);
        Check.same("asked for all the same", x.client(0, 1), 0);
        Check.same("a letter read makes room for its reply", x.deliver(0), 250);
        Check.same("the reply", x.letter(249, 0), ACK);
        Check.same("nothing lost by it", x.count(4), 6);
    }

    private static void aDoubledLetterIsLostInAFullRow() {
        OneTrip x = new OneTrip(1, 1, 1, 10);
        fill(x, 249);
        x.ask(0, GET, 0, 0);
        Check.same("full", x.count(0), 250);
        Check.same("twice", x.twice(0), 250);
        Check.same("lost", x.count(4), 1);
        Check.same("the last stays", x.letter(249, 0), EXEC);
    }

    private static void rowCallsRefuse() {
        OneTrip x = small();
        for (int n = 0; n < 2; n++) {
            int end = x.count(0);
            Check.outOfBounds("deliver -1", x, () -> x.deliver(-1));
            Check.outOfBounds("deliver behind", x, () -> x.deliver(end));
            Check.outOfBounds("lose -1", x, () -> x.lose(-1));
            Check.outOfBounds("lose behind", x, () -> x.lose(end));
            Check.outOfBounds("twice -1", x, () -> x.twice(-1));
            Check.outOfBounds("twice behind", x, () -> x.twice(end));
            Check.outOfBounds("letter -1", x, () -> x.letter(-1, 0));
            Check.outOfBounds("letter behind", x, () -> x.letter(end, 0));
            Check.same("nothing changed", x.count(0), end);
            x.ask(0, PUT, 0, 0);
        }
    }

    private static void letterRefuses() {
        OneTrip x = small();
        x.ask(0, PUT, 0, 0);
        Check.badArgument("what -1", x, () -> x.letter(0, -1));
        Check.badArgument("what 4", x, () -> x.letter(0, 4));
        Check.badArgument("what 4 of the last", x, () -> x.letter(1, 4));
    }

    private static void one(String what, OneTrip x, int k, int kind, int epoch, int who, int n) {
        int[] due = {kind, epoch, who, n};
        for (int i = 0; i < 4; i++) {
            Check.same(what + ", letter(" + k + ", " + i + ")", x.letter(k, i), due[i]);
        }
    }

    private static void letterTellsEachKind() {
        OneTrip x = new OneTrip(2, 1, 1, 10);
        x.decide(0, 0);
        x.learn(2);
        x.ask(2, PUT, 1, 5);
        one("exec", x, 0, EXEC, 1, 2, 1);
        one("record", x, 2, RECORD, 1, 1, 1);
        x.deliver(2);
        one("reject of a witness of an epoch before", x, 2, REJECT, 1, 2, 1);
        x.deliver(0);
        one("answer", x, 2, ANSWER, 1, 2, 1);
        x.deliver(1);
        one("syncnow", x, 2, SYNCNOW, 1, 2, 1);
        x.deliver(2);
        one("first sync", x, 2, SYNC, 1, 0, 1);
        one("second sync", x, 3, SYNC, 1, 1, 1);
        x.deliver(3);
        one("ack of the second", x, 3, ACK, 1, 1, 1);
        x.deliver(2);
        x.deliver(2);
        x.deliver(2);
        one("safe answer", x, 2, ANSWER, 1, 2, 1);
        one("first reset", x, 3, RESET, 1, 0, 0);
        one("second reset", x, 4, RESET, 1, 1, 0);
        one("first gc", x, 5, GC, 1, 0, 1);
        one("second gc", x, 6, GC, 1, 1, 1);
        x.deliver(3);
        x.deliver(0);
        one("accept behind the reset", x, 5, ACCEPT, 1, 2, 1);
    }

    private static void execOfAKnownUpdate() {
        OneTrip x = small();
        x.ask(0, PUT, 1, 5);
        x.twice(0);
        x.twice(0);
        x.deliver(0);
        x.deliver(1);
        Check.letters("not safe, again", x,
                1, 0, 0, 1, 0, 0, 0, 1, 2, 0, 0, 1, 2, 0, 0, 1);
        Check.same("executed once", x.master(0, 1), 1);
        x.lose(2);
        x.deliver(2);
        Check.same("an answer that is not safe", x.client(0, 5), 1);
        x.sync(0);
        Check.deliverKind(x, SYNC);
        Check.deliverKind(x, ACK);
        Check.deliverKind(x, GC);
        Check.letters("the rest", x, 1, 0, 0, 1, 0, 0, 0, 1);
        x.deliver(1);
        one("synced now", x, 1, ANSWER, 0, 0, 1);
        x.deliver(1);
        Check.same("done by the safe answer", x.client(0, 1), 1);
        Check.same("not by accepts", x.client(0, 6), 0);

        OneTrip late = small();
        late.ask(0, PUT, 1, 5);
        late.ask(1, ADD, 1, 6);
        late.deliver(0);
        late.deliver(1);
        Check.loseAll(late);
        late.retry(1);
        late.deliver(0);
        Check.letters("a late one again: no answer but a sync", late,
                1, 0, 0, 1, 6, 0, 0, 2);
    }

    private static void execBehindAGreaterNumber() {
        OneTrip x = small();
        x.ask(0, PUT, 1, 5);
        x.twice(0);
        x.twice(0);
        x.deliver(0);
        x.deliver(0);
        Check.deliverKind(x, ANSWER);
        Check.deliverKind(x, ACCEPT);
        Check.same("done", x.client(0, 1), 1);
        x.ask(0, GET, 1, 0);
        x.twice(2);
        x.deliver(2);
        Check.deliverKind(x, SYNC);
        Check.deliverKind(x, ACK);
        Check.deliverKind(x, GC);
        Check.deliverKind(x, ANSWER);
        Check.same("the get is done", x.client(0, 1), 1);
        x.ask(0, ADD, 2, 1);
        Check.letters("old letters and new ones", x,
                0, 0, 0, 1, 0, 0, 0, 1, 0, 0, 0, 2, 0, 0, 0, 3, 1, 0, 0, 3);
        x.deliver(3);
        Check.same("the log", x.master(0, 1), 2);
        x.deliver(2);
        Check.same("an old get behind a greater update: nothing", x.master(0, 3), 0);
        Check.same("nothing sent", x.count(0), 4);
        x.deliver(0);
        one("an old update of the log is answered", x, 3, ANSWER, 0, 0, 1);
    }

    private static void execIsLateByItsKey() {
        OneTrip x = new OneTrip(2, 1, 1, 10);
        x.ask(0, PUT, 1, 5);
        x.ask(1, PUT, 2, 6);
        x.ask(2, ADD, 1, 7);
        x.deliver(0);
        x.deliver(2);
        x.deliver(4);
        int n = x.count(0);
        one("another key is not late", x, n - 3, ANSWER, 0, 1, 1);
        one("late: the first sync", x, n - 2, SYNC, 0, 0, 3);
        one("late: the second sync", x, n - 1, SYNC, 0, 1, 3);
        Check.same("value", x.value(0, 1), 12);
        Check.loseAll(x);
        x.sync(0);
        Check.deliverAll(x);
        Check.same("all synced", x.master(0, 2), 3);
        x.ask(3, ADD, 1, 1);
        x.deliver(0);
        one("behind synced ones: not late", x, 2, ANSWER, 0, 3, 1);
        Check.same("no sync", x.count(0), 3);
    }

    private static void execSyncsAtTheBatch() {
        OneTrip x = new OneTrip(1, 1, 1, 2);
        x.ask(0, PUT, 1, 5);
        x.deliver(0);
        Check.letters("below the batch", x, 1, 0, 0, 1, 2, 0, 0, 1);
        x.ask(1, PUT, 2, 5);
        x.deliver(2);
        Check.letters("at the batch: the answer, then the sync", x,
                1, 0, 0, 1, 2, 0, 0, 1, 1, 0, 0, 1, 2, 0, 1, 1, 6, 0, 0, 2);
        x.ask(2, PUT, 3, 5);
        x.deliver(5);
        one("above the batch: again", x, 7, SYNC, 0, 0, 3);
        Check.loseAll(x);
        x.sync(0);
        x.deliver(0);
        x.deliver(0);
        Check.loseAll(x);
        x.ask(3, PUT, 4, 5);
        x.deliver(0);
        Check.same("counted behind the synced ones", x.count(0), 2);
    }

    private static void execOfAGetWaitsOnce() {
        OneTrip x = new OneTrip(2, 1, 1, 10);
        x.ask(0, GET, 1, 0);
        x.twice(0);
        x.deliver(0);
        Check.letters("a sync to each", x, 0, 0, 0, 1, 6, 0, 0, 0, 6, 0, 1, 0);
        x.deliver(0);
        Check.letters("and again", x, 6, 0, 0, 0, 6, 0, 1, 0, 6, 0, 0, 0, 6, 0, 1, 0);
        Check.same("it waits once", x.master(0, 3), 1);
        x.deliver(0);
        x.deliver(0);
        x.deliver(2);
        Check.same("not by one backup", x.master(0, 3), 1);
        x.deliver(2);
        Check.same("the first syncs suffice", x.master(0, 3), 0);
        one("the answer", x, 2, ANSWER, 0, 0, 1);
        Check.deliverAll(x);
        Check.same("done", x.client(0, 1), 1);
    }

    private static void execAtACrashedMaster() {
        OneTrip x = small();
        x.ask(0, PUT, 1, 5);
        x.crash(0);
        Check.same("nothing sent", x.deliver(0), 1);
        Check.same("nothing written", x.master(0, 1), 0);
        Check.same("a witness still accepts", x.deliver(0), 1);
        Check.same("accept", x.letter(0, 0), ACCEPT);
    }

    private static void syncAtABackup() {
        OneTrip x = new OneTrip(2, 4, 4, 10);
        x.sync(0);
        x.ask(0, PUT, 1, 5);
        x.deliver(2);
        x.sync(0);
        int n = x.count(0);
        one("the second sync to backup 0", x, n - 2, SYNC, 0, 0, 1);
        x.deliver(n - 2);
        Check.same("it has one", x.backup(0, 1), 1);
        x.deliver(0);
        Check.same("fewer: it keeps what it has", x.backup(0, 1), 1);
        one("and tells what it has", x, x.count(0) - 1, ACK, 0, 0, 1);
        Check.loseAll(x);
        x.crash(0);
        Check.same("from backup 1", x.decide(1, 0), 1);
        Check.same("an empty log", x.master(1, 1), 0);
        x.sync(1);
        x.deliver(0);
        Check.same("of a greater epoch", x.backup(0, 0), 1);
        Check.same("the first ones of that log, though fewer", x.backup(0, 1), 0);
        one("ack of the new epoch", x, 1, ACK, 1, 0, 0);
    }

    private static void syncIsToldAsItWasSent() {
        OneTrip x = small();
        x.sync(0);
        x.ask(0, PUT, 1, 5);
        x.deliver(1);
        x.sync(0);
        x.crash(0);
        x.deliver(0);
        Check.same("as it was sent: none", x.backup(0, 1), 0);
        Check.deliverKind(x, SYNC);
        Check.same("also behind the crash: one", x.backup(0, 1), 1);
        Check.deliverKind(x, ACK);
        Check.deliverKind(x, ACK);
        Check.same("acks at a crashed master", x.master(0, 2), 0);

        OneTrip old = small();
        old.sync(0);
        old.decide(0, 0);
        Check.same("of an epoch below: nothing", old.deliver(0), 0);
        Check.same("its epoch stays", old.backup(0, 0), 1);
    }

    private static void ackKnowsTheGreatest() {
        OneTrip x = new OneTrip(2, 1, 1, 10);
        x.sync(0);
        x.deliver(0);
        x.deliver(0);
        x.ask(0, PUT, 1, 5);
        Check.deliverKind(x, EXEC);
        x.sync(0);
        Check.letters("two old acks and two new syncs", x,
                7, 0, 0, 0, 7, 0, 1, 0, 1, 0, 0, 1, 1, 0, 1, 1, 2, 0, 0, 1,
                6, 0, 0, 1, 6, 0, 1, 1);
        x.deliver(5);
        x.deliver(6);
        Check.same("one told, the other nothing: none", x.master(0, 2), 0);
        x.deliver(0);
        x.deliver(0);
        Check.same("a lesser one of 0 counts not, 1 told none", x.master(0, 2), 0);
        x.deliver(3);
        Check.same("nothing synced, no gc", x.count(0), 4);
        x.deliver(3);
        Check.same("the least of one and one", x.master(0, 2), 1);
        Check.same("gc to each", x.count(0), 5);
        one("the first", x, 3, GC, 0, 0, 1);
        one("the second", x, 4, GC, 0, 1, 1);
    }

    private static void ackAnswersTheLateInOrder() {
        OneTrip x = new OneTrip(1, 1, 4, 10);
        x.ask(0, PUT, 1, 5);
        x.ask(1, PUT, 2, 6);
        x.ask(2, ADD, 2, 7);
        x.ask(3, ADD, 1, 8);
        for (int i = 0; i < 4; i++) {
            x.deliver(0);
            x.lose(0);
        }
        Check.letters("answers, then syncs", x,
                2, 0, 0, 1, 2, 0, 1, 1, 6, 0, 0, 3, 6, 0, 0, 4);
        x.deliver(3);
        x.deliver(3);
        Check.letters("the late ones in the log's order, then gc", x,
                2, 0, 0, 1, 2, 0, 1, 1, 6, 0, 0, 3, 2, 0, 2, 1, 2, 0, 3, 1, 8, 0, 0, 4);
        Check.deliverAll(x);
        Check.same("2 told", x.client(2, 2), 13);
        Check.same("3 told", x.client(3, 2), 13);
        Check.same("0 has an answer only", x.client(0, 5), 1);
        Check.same("audit", x.audit(), 0);
        x.ask(2, PUT, 3, 9);
        x.deliver(0);
        x.sync(0);
        x.deliver(2);
        x.deliver(2);
        Check.letters("synced by the next: not answered again", x,
                1, 0, 0, 2, 2, 0, 2, 2, 8, 0, 0, 5);
    }

    private static void ackConfirmsGetsByTheCount() {
        OneTrip x = small();
        x.sync(0);
        x.ask(0, GET, 3, 0);
        x.deliver(1);
        Check.letters("a sync of before and one of the get", x, 6, 0, 0, 0, 6, 0, 0, 0);
        x.deliver(0);
        x.deliver(1);
        Check.same("an earlier sync's ack does not confirm", x.master(0, 3), 1);
        x.deliver(0);
        x.deliver(0);
        Check.same("the get's own does", x.master(0, 3), 0);

        OneTrip later = small();
        later.ask(0, GET, 3, 0);
        later.deliver(0);
        later.sync(0);
        later.lose(0);
        Check.deliverAll(later);
        Check.same("a later sync's ack confirms too", later.client(0, 1), 1);
    }

    private static void ackAnswersGetsBehindTheirPlace() {
        OneTrip x = new OneTrip(1, 4, 4, 10);
        x.ask(0, PUT, 1, 5);
        x.deliver(0);
        x.ask(1, GET, 1, 0);
        Check.deliverKind(x, EXEC);
        x.ask(2, GET, 2, 0);
        Check.deliverKind(x, EXEC);
        x.ask(3, ADD, 1, 6);
        Check.deliverKind(x, EXEC);
        Check.same("two wait", x.master(0, 3), 2);
        Check.same("the value goes on", x.value(0, 1), 11);
        for (int k = x.count(0) - 1; k >= 0; k--) {
            if (x.letter(k, 0) != SYNC) {
                x.lose(k);
            }
        }
        Check.letters("syncs of the gets and of the late one", x,
                6, 0, 0, 1, 6, 0, 0, 1, 6, 0, 0, 2);
        x.deliver(2);
        x.deliver(2);
        Check.letters("late answer, gc, gets in the order in which they came", x,
                6, 0, 0, 1, 6, 0, 0, 1, 2, 0, 3, 1, 8, 0, 0, 2, 2, 0, 1, 1, 2, 0, 2, 1);
        Check.same("they wait no more", x.master(0, 3), 0);
        Check.deliverAll(x);
        Check.same("the value behind its place", x.client(1, 2), 5);
        Check.same("another key", x.client(2, 2), 0);
        Check.same("audit", x.audit(), 0);
    }

    private static void ackSettlesOnce() {
        OneTrip x = new OneTrip(2, 1, 1, 10);
        x.sync(0);
        for (int i = 0; i < 4; i++) {
            x.deliver(0);
        }
        Check.same("epoch 0 resets nobody", x.count(0), 0);
        x.ask(0, PUT, 1, 5);
        Check.deliverAll(x);
        x.decide(0, 0);
        x.sync(1);
        Check.same("not settled yet: no reset", x.count(0), 2);
        x.deliver(0);
        x.deliver(1);
        Check.letters("one of two told", x, 6, 1, 1, 1);
        x.deliver(0);
        x.deliver(0);
        Check.letters("settled: reset to each, then gc to each", x,
                9, 1, 0, 0, 9, 1, 1, 0, 8, 1, 0, 1, 8, 1, 1, 1);
        Check.loseAll(x);
        x.sync(1);
        Check.letters("a sync behind it resets too", x,
                6, 1, 0, 1, 6, 1, 1, 1, 9, 1, 0, 0, 9, 1, 1, 0);
        x.deliver(0);
        x.lose(1);
        x.lose(1);
        x.deliver(1);
        x.deliver(0);
        x.deliver(0);
        Check.same("settled for the first time only", x.count(0), 0);

        OneTrip empty = small();
        empty.decide(0, 0);
        empty.sync(1);
        empty.deliver(0);
        empty.deliver(0);
        Check.letters("an empty log settles with the acks", empty, 9, 1, 0, 0);
    }

    private static void recordsCommute() {
        OneTrip x = new OneTrip(1, 2, 2, 10);
        x.ask(0, PUT, 1, 5);
        x.twice(1);
        x.lose(0);
        x.deliver(0);
        x.deliver(0);
        Check.letters("the same one twice", x, 3, 0, 0, 1, 3, 0, 0, 1);
        Check.same("held once", x.witness(0, 2), 1);
        x.ask(1, ADD, 1, 5);
        x.deliver(3);
        one("another one of the key", x, 3, REJECT, 0, 1, 1);
        x.ask(2, ADD, 3, 5);
        x.deliver(5);
        one("another key of the set", x, 5, ACCEPT, 0, 2, 1);
        Check.same("keys", x.witness(0, 3), 0b1010);
        Check.same("records", x.witness(0, 2), 2);
    }

    private static int verdict(OneTrip x, int client, int key) {
        x.ask(client, PUT, key, 1);
        x.lose(x.count(0) - 2);
        x.deliver(x.count(0) - 1);
        return x.letter(x.count(0) - 1, 0);
    }

    private static void recordsFillTheirSet() {
        OneTrip x = new OneTrip(1, 3, 1, 10);
        Check.same("key 2 in set 2", verdict(x, 0, 2), ACCEPT);
        Check.same("key 5 in set 2: full", verdict(x, 1, 5), REJECT);
        Check.same("key 6 in set 0", verdict(x, 2, 6), ACCEPT);
        Check.same("key 13 in set 1", verdict(x, 3, 13), ACCEPT);
        Check.same("keys", x.witness(0, 3), 1 << 2 | 1 << 6 | 1 << 13);
        OneTrip y = new OneTrip(1, 4, 2, 10);
        Check.same("key 3", verdict(y, 0, 3), ACCEPT);
        Check.same("key 15", verdict(y, 1, 15), ACCEPT);
        Check.same("key 7: two ways are full", verdict(y, 2, 7), REJECT);
        Check.same("key 0", verdict(y, 3, 0), ACCEPT);
    }

    private static void recordsNeedTheEpoch() {
        OneTrip x = new OneTrip(2, 4, 4, 10);
        x.decide(0, 0);
        Check.same("of epoch 0, frozen at 1", verdictAt(x, 0, 0), REJECT);
        Check.same("of epoch 0 at 0", verdictAt(x, 1, 1), ACCEPT);
        x.learn(2);
        x.learn(3);
        Check.same("of epoch 1, frozen at 1", verdictAt(x, 2, 0), REJECT);
        Check.same("of epoch 1 at 0", verdictAt(x, 3, 1), REJECT);
    }

    private static int verdictAt(OneTrip x, int client, int witness) {
        Check.loseAll(x);
        x.ask(client, PUT, client, 1);
        x.deliver(1 + witness);
        return x.letter(2, 0);
    }

    private static void gcDropsWhatIsSynced() {
        OneTrip x = new OneTrip(1, 4, 4, 10);
        x.ask(0, PUT, 1, 5);
        x.ask(1, PUT, 2, 5);
        x.deliver(0);
        x.deliver(0);
        x.deliver(1);
        x.sync(0);
        Check.deliverKind(x, EXEC);
        Check.deliverKind(x, SYNC);
        Check.deliverKind(x, ACK);
        Check.same("both held", x.witness(0, 2), 2);
        Check.deliverKind(x, GC);
        Check.same("the synced one is dropped", x.witness(0, 3), 1 << 2);

        OneTrip old = new OneTrip(1, 4, 4, 10);
        old.ask(0, PUT, 1, 5);
        old.deliver(0);
        old.deliver(0);
        old.sync(0);
        Check.deliverKind(old, SYNC);
        Check.deliverKind(old, ACK);
        old.decide(0, 0);
        Check.deliverKind(old, GC);
        Check.same("a gc of another epoch", old.witness(0, 2), 1);
        old.sync(1);
        Check.deliverKind(old, SYNC);
        Check.deliverKind(old, ACK);
        Check.deliverKind(old, GC);
        Check.same("a gc of its epoch, though frozen", old.witness(0, 2), 0);
        Check.same("still frozen", old.witness(0, 1), 1);
    }

    private static void resetAtAWitness() {
        OneTrip x = new OneTrip(2, 4, 4, 10);
        x.ask(0, PUT, 1, 5);
        x.deliver(1);
        x.deliver(1);
        x.decide(0, 0);
        Check.loseAll(x);
        x.sync(1);
        for (int i = 0; i < 4; i++) {
            x.deliver(0);
        }
        x.lose(3);
        x.lose(2);
        Check.letters("resets", x, 9, 1, 0, 0, 9, 1, 1, 0);
        x.twice(0);
        x.twice(0);
        x.deliver(0);
        Check.same("of its epoch and frozen: frozen no more", x.witness(0, 1), 0);
        Check.same("no records", x.witness(0, 2), 0);
        Check.same("the epoch", x.witness(0, 0), 1);
        Check.same("not delivered there", x.witness(1, 2), 1);
        x.deliver(0);
        Check.same("of a lesser epoch: the epoch", x.witness(1, 0), 1);
        Check.same("no records there", x.witness(1, 2), 0);
        x.learn(0);
        Check.deliverKind(x, RECORD);
        Check.same("holds one", x.witness(0, 2), 1);
        x.deliver(0);
        Check.same("of its epoch, not frozen: it stays", x.witness(0, 2), 1);
        x.decide(1, 0);
        x.deliver(0);
        Check.same("of a greater epoch: stays frozen", x.witness(0, 1), 1);
        Check.same("and keeps its record", x.witness(0, 2), 1);
        Check.same("and its epoch", x.witness(0, 0), 2);
    }

    private static void answersNeedEpochAndNumber() {
        OneTrip x = small();
        x.ask(0, PUT, 1, 5);
        x.deliver(0);
        x.deliver(0);
        x.decide(0, 0);
        x.learn(0);
        x.deliver(0);
        Check.same("an answer of another epoch", x.client(0, 5), 0);
        x.deliver(0);
        Check.same("an accept of another epoch", x.client(0, 4), 0);
        Check.deliverAll(x);
        Check.same("done in the new one", x.client(0, 1), 1);

        OneTrip y = small();
        y.ask(0, PUT, 1, 5);
        y.deliver(0);
        y.deliver(0);
        y.twice(0);
        y.twice(1);
        y.deliver(0);
        y.deliver(0);
        Check.same("done", y.client(0, 1), 1);
        y.deliver(0);
        Check.same("once", y.count(3) * 10 + y.client(0, 6), 11);
        y.ask(0, PUT, 2, 5);
        y.deliver(0);
        Check.same("an accept of another number", y.client(0, 4), 0);
    }

    private static void rejectAsksForASync() {
        OneTrip x = new OneTrip(1, 1, 1, 10);
        x.ask(0, PUT, 1, 5);
        Check.deliverAll(x);
        x.ask(1, PUT, 2, 5);
        x.deliver(1);
        x.twice(1);
        x.deliver(1);
        Check.letters("without an answer", x, 0, 0, 1, 1, 4, 0, 1, 1, 5, 0, 1, 1);
        x.deliver(2);
        Check.same("not in the log: nothing", x.count(0), 2);
        x.deliver(0);
        x.deliver(1);
        x.deliver(0);
        Check.letters("with an answer, once more", x, 5, 0, 1, 1);
        Check.deliverAll(x);
        Check.same("done", x.client(1, 1), 1);
        Check.same("not by accepts", x.client(1, 6), 0);

        OneTrip old = small();
        old.ask(0, PUT, 1, 5);
        old.decide(0, 0);
        old.deliver(1);
        old.deliver(1);
        one("to the master of the epoch that it knows", old, 1, SYNCNOW, 0, 0, 1);
    }

    private static void syncNowAtAMaster() {
        OneTrip x = new OneTrip(1, 1, 1, 10);
        x.ask(0, PUT, 1, 5);
        Check.deliverAll(x);
        x.ask(1, PUT, 2, 5);
        x.deliver(1);
        x.deliver(1);
        x.twice(1);
        x.twice(1);
        x.deliver(0);
        x.deliver(0);
        Check.letters("a sync", x, 5, 0, 1, 1, 5, 0, 1, 1, 2, 0, 1, 1, 6, 0, 0, 2);
        x.deliver(3);
        x.deliver(3);
        Check.letters("an answer to the one that asked, a gc", x,
                5, 0, 1, 1, 5, 0, 1, 1, 2, 0, 1, 1, 2, 0, 1, 1, 8, 0, 0, 2);
        x.deliver(0);
        one("synced already: an answer", x, 4, ANSWER, 0, 1, 1);
        x.deliver(4);
        Check.same("which is safe", x.client(1, 1), 1);
        x.crash(0);
        Check.same("a crashed one does nothing", x.deliver(0), 3);
    }
}
