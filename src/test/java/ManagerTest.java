/** Promises 10, 15 and 16: decide, backup, witness. */
public final class ManagerTest {
    private static final int PUT = 0;
    private static final int ADD = 1;
    private static final int GET = 2;

    public static void main(String[] args) {
        decideMakesTheNextEpoch();
        decideTakesTheBackupsLogThenTheRecords();
        recordsComeByClientsAndNumbers();
        recordsOfTheLogComeOnce();
        noneOfTheNewLogIsLate();
        nothingIsKnownOfBackups();
        oldMastersLiveOnUnknowing();
        aBackupThatLagsBehindMayBeChosen();
        twelveEpochsAreAll();
        backupTellsEpochAndLog();
        witnessTellsItsRecords();
        callsRefuse();
        Check.close("ManagerTest");
    }

    private static void witnessIs(String what, OneTrip x, int witness, int... due) {
        for (int i = 0; i < due.length; i++) {
            Check.same(what + ", witness(" + witness + ", " + i + ")", x.witness(witness, i),
                    due[i]);
        }
    }

    private static void backupIs(String what, OneTrip x, int backup, int epoch, int has) {
        Check.same(what + ", its epoch", x.backup(backup, 0), epoch);
        Check.same(what + ", its log", x.backup(backup, 1), has);
    }

    private static void decideMakesTheNextEpoch() {
        OneTrip x = new OneTrip(3, 2, 2, 10);
        Check.same("epoch 1", x.decide(1, 2), 1);
        Check.same("two epochs", x.count(1), 2);
        Check.same("nothing sent", x.count(0), 0);
        witnessIs("the chosen one", x, 2, 1, 1, 0, 0);
        witnessIs("another", x, 0, 0, 0, 0, 0);
        witnessIs("another", x, 1, 0, 0, 0, 0);
        backupIs("the chosen one", x, 1, 1, 0);
        backupIs("another", x, 0, 0, 0);
        backupIs("another", x, 2, 0, 0);
        for (int c = 0; c < 4; c++) {
            Check.same("no client knows it", x.client(c, 3), 0);
        }
        Check.same("epoch 2", x.decide(0, 2), 2);
    }

    /** Client 0 to 2 put keys 1 to 3; the first is synced, the witnesses have the second. */
    private static OneTrip spread() {
        OneTrip x = new OneTrip(2, 4, 4, 10);
        x.ask(0, PUT, 1, 10);
        x.deliver(0);
        x.sync(0);
        Check.deliverAll(x);
        x.ask(1, ADD, 2, 20);
        Check.deliverAll(x);
        x.ask(2, PUT, 3, 30);
        x.deliver(0);
        Check.loseAll(x);
        return x;
    }

    private static void decideTakesTheBackupsLogThenTheRecords() {
        OneTrip x = spread();
        Check.same("the old log", x.master(0, 1), 3);
        x.decide(0, 1);
        Check.same("one of the backup, one of the witness", x.master(1, 1), 2);
        Check.same("it began so", x.master(1, 4), 2);
        Check.same("value of the backup", x.value(1, 1), 10);
        Check.same("value of the witness", x.value(1, 2), 20);
        Check.same("of nobody", x.value(1, 3), 0);
        witnessIs("its records stay", x, 1, 1, 1, 1, 4);
        backupIs("its log stays as it was", x, 0, 1, 1);
        Check.same("audit", x.audit(), 0);
        x.learn(1);
        x.learn(2);
        Check.same("the one not done tries again, the done one does not", x.count(0), 3);
    }

    /** All letters but RECORDs are lost: only the witness has them. */
    private static void record(OneTrip x, int client, int what, int key, int v) {
        x.ask(client, what, key, v);
        x.lose(x.count(0) - 2);
        x.deliver(x.count(0) - 1);
        Check.same("accepted", x.letter(x.count(0) - 1, 0), 3);
        x.lose(x.count(0) - 1);
    }

    private static void recordsComeByClientsAndNumbers() {
        OneTrip x = new OneTrip(1, 4, 4, 10);
        x.ask(1, ADD, 7, 1);
        Check.deliverAll(x);
        x.ask(2, ADD, 4, 1);
        Check.deliverAll(x);
        record(x, 3, ADD, 1, 5);
        record(x, 2, ADD, 3, 8);
        record(x, 1, ADD, 0, 6);
        record(x, 0, PUT, 2, 7);
        x.decide(0, 0);
        Check.same("the lesser numbers come first, so none is left out", x.master(1, 1), 6);
        Check.same("first of 1", x.value(1, 7), 1);
        Check.same("first of 2", x.value(1, 4), 1);
        for (int c = 3; c >= 0; c--) {
            x.learn(c);
            x.lose(x.count(0) - 2);
        }
        for (int i = 0; i < 12; i++) {
            x.deliver(0);
        }
        Check.same("each had its record rejected and a SYNCNOW read", x.count(0), 4);
        x.deliver(0);
        x.deliver(3);
        Check.same("answers, reset and gc", x.count(0), 9);
        for (int c = 0; c < 4; c++) {
            Check.same("answers by clients", x.letter(3 + c, 0) * 10 + x.letter(3 + c, 2), 20 + c);
        }
        Check.deliverAll(x);
        int[] told = {0, 6, 8, 5};
        for (int c = 0; c < 4; c++) {
            Check.same("told " + c, x.client(c, 2), told[c]);
        }
        Check.same("audit", x.audit(), 0);
    }

    private static void recordsOfTheLogComeOnce() {
        OneTrip x = new OneTrip(1, 1, 4, 10);
        x.ask(0, ADD, 1, 5);
        Check.deliverAll(x);
        x.sync(0);
        x.deliver(0);
        Check.loseAll(x);
        Check.same("the backup has it", x.backup(0, 1), 1);
        Check.same("the witness too", x.witness(0, 2), 1);
        x.decide(0, 0);
        Check.same("once", x.master(1, 1), 1);
        Check.same("added once", x.value(1, 1), 5);
        x.decide(0, 0);
        Check.same("and once again", x.master(2, 1), 1);
    }

    private static void noneOfTheNewLogIsLate() {
        OneTrip x = new OneTrip(1, 1, 4, 10);
        x.ask(0, ADD, 1, 5);
        x.ask(1, ADD, 1, 6);
        x.deliver(0);
        x.deliver(1);
        Check.deliverKind(x, 6);
        Check.loseAll(x);
        backupIs("both", x, 0, 0, 2);
        x.decide(0, 0);
        x.learn(1);
        x.deliver(0);
        Check.letters("an answer, not a sync", x, 1, 1, 0, 1, 2, 1, 1, 1);
        x.deliver(1);
        Check.same("not safe", x.client(1, 5), 1);
        Check.loseAll(x);
        x.sync(1);
        x.deliver(0);
        x.deliver(0);
        Check.letters("nobody waits for an answer", x, 9, 1, 0, 0, 8, 1, 0, 2);
    }

    private static void nothingIsKnownOfBackups() {
        OneTrip x = new OneTrip(2, 1, 4, 10);
        x.ask(0, ADD, 1, 5);
        x.deliver(0);
        x.sync(0);
        Check.deliverAll(x);
        Check.same("synced at 0", x.master(0, 2), 1);
        x.decide(0, 0);
        Check.same("not at 1", x.master(1, 2), 0);
        x.learn(1);
        x.ask(1, ADD, 1, 5);
        x.deliver(0);
        Check.same("so one of the key is late", x.letter(2, 0), 6);
    }

    private static void oldMastersLiveOnUnknowing() {
        OneTrip x = new OneTrip(2, 4, 4, 1);
        x.decide(0, 0);
        x.ask(0, PUT, 1, 5);
        Check.same("the old master answers", x.deliver(0), 5);
        Check.same("its log grows", x.master(0, 1), 1);
        Check.same("the new one's does not", x.master(1, 1), 0);
        for (int i = 0; i < 30 && x.count(0) > 0; i++) {
            x.deliver(0);
        }
        Check.same("but it is never done", x.client(0, 1), 0);
        Check.same("nor synced", x.master(0, 2), 0);
        x.ask(1, GET, 1, 0);
        Check.deliverAll(x);
        Check.same("nor a get", x.client(1, 1), 0);
        x.learn(0);
        x.learn(1);
        Check.deliverAll(x);
        Check.same("the new one does", x.client(0, 1), 1);
        Check.same("and the get", x.client(1, 1), 1);
        Check.same("audit", x.audit(), 0);
    }

    private static void aBackupThatLagsBehindMayBeChosen() {
        OneTrip x = new OneTrip(2, 4, 4, 10);
        x.ask(0, PUT, 1, 5);
        Check.deliverAll(x);
        Check.same("done by accepts", x.client(0, 6), 1);
        x.sync(0);
        x.deliver(0);
        Check.loseAll(x);
        backupIs("backup 0 has it", x, 0, 0, 1);
        backupIs("backup 1 has not", x, 1, 0, 0);
        x.decide(1, 0);
        Check.same("the witness told it", x.value(1, 1), 5);
        Check.same("audit", x.audit(), 0);
        x.sync(1);
        Check.deliverAll(x);
        backupIs("backup 0 follows", x, 0, 1, 1);
        backupIs("backup 1 has it", x, 1, 1, 1);
        witnessIs("reset", x, 1, 1, 0, 0, 0);
    }

    private static void twelveEpochsAreAll() {
        OneTrip x = new OneTrip(2, 1, 1, 1);
        for (int epoch = 1; epoch < 12; epoch++) {
            Check.same("epoch", x.decide(epoch % 2, epoch / 2 % 2), epoch);
        }
        Check.same("twelve", x.count(1), 12);
        int frozen = x.witness(0, 0);
        Check.changesNothing("no thirteenth", x, Check.UNSUPPORTED, () -> x.decide(0, 0));
        Check.outOfBounds("no such backup", x, () -> x.decide(2, 0));
        Check.same("still twelve", x.count(1), 12);
        Check.same("the witness stays", x.witness(0, 0), frozen);
        Check.same("all live", x.master(0, 0) + x.master(11, 0), 2);
    }

    private static void backupTellsEpochAndLog() {
        OneTrip x = new OneTrip(2, 4, 4, 10);
        x.ask(0, PUT, 1, 5);
        x.deliver(0);
        x.sync(0);
        Check.loseAll(x);
        backupIs("nothing came", x, 1, 0, 0);
        x.sync(0);
        x.deliver(1);
        backupIs("one came", x, 1, 0, 1);
        backupIs("not to the other", x, 0, 0, 0);
    }

    private static void witnessTellsItsRecords() {
        OneTrip x = new OneTrip(1, 2, 4, 10);
        record(x, 0, PUT, 0, 5);
        record(x, 1, PUT, 15, 5);
        witnessIs("two", x, 0, 0, 0, 2, 0x8001);
        x.decide(0, 0);
        witnessIs("frozen, its records stay", x, 0, 1, 1, 2, 0x8001);
        x.sync(1);
        Check.deliverAll(x);
        witnessIs("reset", x, 0, 1, 0, 0, 0);
    }

    private static void callsRefuse() {
        OneTrip x = new OneTrip(2, 1, 1, 1);
        Check.outOfBounds("decide for backup -1", x, () -> x.decide(-1, 0));
        Check.outOfBounds("decide for backup 2", x, () -> x.decide(2, 0));
        Check.outOfBounds("decide for witness -1", x, () -> x.decide(0, -1));
        Check.outOfBounds("decide for witness 2", x, () -> x.decide(0, 2));
        Check.outOfBounds("backup -1", x, () -> x.backup(-1, 0));
        Check.outOfBounds("backup 2", x, () -> x.backup(2, 0));
        Check.outOfBounds("witness -1", x, () -> x.witness(-1, 0));
        Check.outOfBounds("witness 2", x, () -> x.witness(2, 0));
        Check.badArgument("backup's what -1", x, () -> x.backup(0, -1));
        Check.badArgument("backup's what 2", x, () -> x.backup(0, 2));
        Check.badArgument("witness's what -1", x, () -> x.witness(0, -1));
        Check.badArgument("witness's what 4", x, () -> x.witness(0, 4));
        Check.same("no epoch came", x.count(1), 1);
        witnessIs("not frozen", x, 0, 0, 0, 0, 0);
    }
}
