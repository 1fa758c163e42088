/** 'Terms' 3, each sentence with an edge in it: what a manager decides, and what audit() asks. */
public final class EdgesOfManagerTest {
    private static final int PUT = Check.PUT;
    private static final int ADD = Check.ADD;
    private static final int GET = Check.GET;
    private static final int EXEC = Check.EXEC;
    private static final int RECORD = Check.RECORD;
    private static final int ANSWER = Check.ANSWER;
    private static final int ACCEPT = Check.ACCEPT;
    private static final int REJECT = Check.REJECT;
    private static final int SYNC = Check.SYNC;
    private static final int GC = Check.GC;
    private static final int RESET = Check.RESET;

    public static void main(String[] args) {
        theNextEpochComes();
        onlyWAndBHaveTheNewEpoch();
        theWitnessIsFrozenAndKeepsItsRecords();
        aFrozenWitnessIsChosenAgain();
        nothingIsInTheNewLog();
        theLogIsThatOfTheBackup();
        recordsThatAreInTheLogComeOnce();
        recordsComeByClients();
        recordsOfOneClientComeByNumbers();
        recordsBehindALesserNumberOfTheLog();
        recordsAheadOfAGreaterNumberOfTheLog();
        eachRecordIsDoneAndHasItsAnswer();
        noneOfTheLogIsLate();
        theBackupsLogStays();
        noBackupIsKnownToHaveAnything();
        clientsDoNotKnowIt();
        aCrashedMasterIsFollowed();
        anyBackupAndAnyWitness();
        auditOfAMasterThatDoesNotLive();
        auditOfAnUpdateThatIsDone();
        auditOfOneThatIsNotDone();
        auditOfTwoOfOneKey();
        auditOfAGetBetweenUpdates();
        auditOfAGetOfAnEmptyLog();
        Check.close("EdgesOfManagerTest");
    }

    private static OneTrip roomy(int f) {
        return new OneTrip(f, 4, 4, 10);
    }

    /** One operation is asked for, and only the RECORD to a witness is read, with its reply. */
    private static void record(OneTrip x, int client, int what, int key, int v, int witness) {
        Check.loseAll(x);
        x.ask(client, what, key, v);
        Check.deliver(x, RECORD, witness);
        Check.same("held", Check.many(x, ACCEPT), 1);
        Check.loseAll(x);
    }

    // "the next EPOCH comes"
    private static void theNextEpochComes() {
        OneTrip x = roomy(3);
        for (int epoch = 1; epoch < 12; epoch++) {
            Check.same("the next", x.decide(epoch % 3, epoch % 2), epoch);
            Check.same("so many", x.count(1), epoch + 1);
            Check.master("an empty LOG, it lives", x, epoch, 1, 0, 0, 0, 0);
            Check.same("no letter", x.count(0), 0);
        }
    }

    // "W has the new EPOCH"; "B has the new EPOCH"
    private static void onlyWAndBHaveTheNewEpoch() {
        for (int b = 0; b < 3; b++) {
            for (int w = 0; w < 3; w++) {
                OneTrip x = roomy(3);
                x.decide(b, w);
                for (int i = 0; i < 3; i++) {
                    Check.backup("backups", x, i, i == b ? 1 : 0, 0);
                    Check.witness("witnesses", x, i, i == w ? 1 : 0, i == w ? 1 : 0, 0, 0);
                }
            }
        }
    }

    // "and is FROZEN; its RECORDS stay"
    private static void theWitnessIsFrozenAndKeepsItsRecords() {
        OneTrip x = roomy(2);
        record(x, 0, PUT, 3, 5, 1);
        record(x, 1, PUT, 7, 5, 1);
        Check.witness("ahead of it", x, 1, 0, 0, 2, 1 << 3 | 1 << 7);
        x.decide(0, 1);
        Check.witness("behind it", x, 1, 1, 1, 2, 1 << 3 | 1 << 7);
    }

    // and of one that is FROZEN already
    private static void aFrozenWitnessIsChosenAgain() {
        OneTrip x = roomy(2);
        record(x, 0, PUT, 3, 5, 1);
        x.decide(0, 1);
        x.decide(0, 1);
        Check.witness("its RECORD stays", x, 1, 2, 1, 1, 1 << 3);
        Check.master("it rises once more", x, 2, 1, 1, 0, 0, 1);
        Check.same("its value", x.value(2, 3), 5);
        x.decide(1, 1);
        Check.same("beside any BACKUP", x.value(3, 3), 5);
        x.decide(1, 0);
        Check.master("not of the other WITNESS", x, 4, 1, 0, 0, 0, 0);
    }

    // A LOG of none and no RECORDS
    private static void nothingIsInTheNewLog() {
        OneTrip x = roomy(1);
        x.ask(0, PUT, 3, 5);
        Check.deliver(x, EXEC, 0);
        x.decide(0, 0);
        Check.master("the LOG that nobody has is lost", x, 1, 1, 0, 0, 0, 0);
        Check.same("its value too", x.value(1, 3), 0);
        Check.same("audit: it was not done", x.audit(), 0);
        Check.deliverAll(x);
        x.learn(0);
        Check.deliverAll(x);
        Check.client("asked for again, it is done", x, 0, 1, 1, 0, 1, 0, 0, 0);
    }

    // "The new MASTER's LOG is that of B"
    private static void theLogIsThatOfTheBackup() {
        for (int b = 0; b < 2; b++) {
            OneTrip x = new OneTrip(2, 1, 1, 10);
            x.ask(0, PUT, 1, 5);
            Check.deliver(x, EXEC, 0);
            x.sync(0);
            x.ask(1, ADD, 1, 6);
            Check.deliver(x, EXEC, 1);
            x.sync(0);
            Check.lose(x, SYNC, 1);
            Check.lose(x, SYNC, 1);
            Check.deliver(x, SYNC, 0);
            Check.deliver(x, SYNC, 1);
            Check.loseAll(x);
            Check.backup("one", x, 0, 0, 1);
            Check.backup("two", x, 1, 0, 2);
            x.decide(b, 0);
            Check.master("all of it", x, 1, 1, b + 1, 0, 0, b + 1);
            Check.same("with its values", x.value(1, 1), b == 0 ? 5 : 11);
            x.learn(b);
            x.deliver(0);
            x.deliver(x.count(0) - 1);
            x.sync(1);
            Check.deliverAll(x);
            x.retry(b);
            Check.deliverAll(x);
            Check.client("and its answers", x, b, 1, 1, b == 0 ? 0 : 11, 1, 0, 0, 0);
        }
    }

    // "then those RECORDS of W that are not in it"
    private static void recordsThatAreInTheLogComeOnce() {
        OneTrip x = roomy(1);
        record(x, 0, ADD, 1, 5, 0);
        record(x, 1, ADD, 2, 6, 0);
        x.retry(1);
        Check.deliver(x, EXEC, 1);
        Check.loseAll(x);
        x.sync(0);
        Check.deliver(x, SYNC, 0);
        x.decide(0, 0);
        Check.master("one of the LOG, one of the RECORDS", x, 1, 1, 2, 0, 0, 2);
        Check.same("added once", x.value(1, 1) * 10 + x.value(1, 2), 56);
        Check.loseAll(x);
        x.sync(1);
        Check.deliver(x, SYNC, 0);
        x.decide(0, 0);
        Check.master("both of the LOG, and both are RECORDS", x, 2, 1, 2, 0, 0, 2);
        Check.same("added once", x.value(2, 1) * 10 + x.value(2, 2), 56);
    }

    // "by CLIENTS"
    private static void recordsComeByClients() {
        int[][] orders = {{3, 2, 1, 0}, {1, 3, 0, 2}, {0, 1, 2, 3}};
        for (int[] order : orders) {
            OneTrip x = roomy(1);
            for (int c : order) {
                record(x, c, PUT, 15 - c, c, 0);
            }
            x.decide(0, 0);
            inTheLogByClients(x, 1);
        }
    }

    /** GC of each LOG's length tells which one came at its end. */
    private static void inTheLogByClients(OneTrip x, int epoch) {
        x.learn(0);
        x.learn(1);
        x.learn(2);
        x.learn(3);
        Check.loseEach(x, EXEC);
        while (Check.many(x, RECORD) > 0) {
            Check.deliver(x, RECORD, 0);
        }
        for (int c = 3; c >= 0; c--) {
            Check.deliver(x, REJECT, c);
            Check.deliver(x, Check.SYNCNOW, c);
        }
        Check.loseAll(x);
        x.sync(epoch);
        Check.syncAndAck(x, 0);
        Check.letters("SAFE answers in the LOG's order", x, ANSWER, epoch, 0, 1,
                ANSWER, epoch, 1, 1, ANSWER, epoch, 2, 1, ANSWER, epoch, 3, 1,
                RESET, epoch, 0, 0, GC, epoch, 0, 4);
    }

    // "of one CLIENT by the OPERATIONS' numbers"
    private static void recordsOfOneClientComeByNumbers() {
        int[][] keys = {{8, 4, 0}, {0, 4, 8}, {4, 8, 0}};
        for (int[] three : keys) {
            OneTrip x = roomy(1);
            for (int key : three) {
                Check.told(x, 2, ADD, key, 1);
                Check.told(x, 1, ADD, key + 1, 1);
            }
            Check.witness("six RECORDS", x, 0, 0, 0, 6, 0b1100110011);
            x.decide(0, 0);
            Check.master("all six rise, the lesser numbers first", x, 1, 1, 6, 0, 0, 6);
            for (int key : three) {
                Check.same("each value", x.value(1, key) + x.value(1, key + 1), 2);
            }
            Check.same("audit", x.audit(), 0);
        }
    }

    // "(one with a number less than another one's of that CLIENT in the LOG is left out)": one
    // with a greater number, or a lesser one of another client, is not
    private static void recordsBehindALesserNumberOfTheLog() {
        OneTrip x = roomy(1);
        Check.told(x, 0, ADD, 0, 1);
        Check.told(x, 0, ADD, 1, 1);
        x.sync(0);
        Check.deliverAll(x);
        Check.backup("numbers 1 and 2 of client 0", x, 0, 0, 2);
        record(x, 0, ADD, 2, 1, 0);
        record(x, 1, ADD, 3, 1, 0);
        x.decide(0, 0);
        Check.master("number 3 of client 0, number 1 of client 1", x, 1, 1, 4, 0, 0, 4);
        Check.same("done", x.value(1, 2) + x.value(1, 3), 2);
    }

    // "(one with a number less than another one's of that CLIENT in the LOG is left out)": no run
    // of calls comes there, so number 2 is taken out of the LOG from inside
    private static void recordsAheadOfAGreaterNumberOfTheLog() {
        OneTrip x = roomy(1);
        for (int key = 0; key < 4; key++) {
            Check.told(x, 0, ADD, key, 1);
        }
        Check.told(x, 1, ADD, 5, 1);
        x.sync(0);
        Check.deliver(x, SYNC, 0);
        record(x, 0, ADD, 4, 1, 0);
        Inside.log(x, 0).remove(1);
        x.decide(0, 0);
        Check.master("number 5 rises, number 2 does not", x, 1, 1, 5, 0, 0, 5);
        Check.same("left out", x.value(1, 1), 0);
        Check.same("done", x.value(1, 4), 1);
        OneTrip y = roomy(1);
        Check.told(y, 0, ADD, 0, 1);
        Check.told(y, 1, ADD, 1, 1);
        Check.told(y, 1, ADD, 2, 1);
        y.sync(0);
        Check.deliver(y, SYNC, 0);
        Inside.log(y, 0).remove(0);
        y.decide(0, 0);
        Check.master("a greater number of another CLIENT", y, 1, 1, 3, 0, 0, 3);
        Check.same("does not leave it out", y.value(1, 0), 1);
    }

    // "each is done, and has the answer that comes of that"
    private static void eachRecordIsDoneAndHasItsAnswer() {
        for (int what = PUT; what <= ADD; what++) {
            OneTrip x = roomy(1);
            Check.told(x, 0, PUT, 1, 40);
            x.sync(0);
            Check.deliverAll(x);
            record(x, 1, what, 1, 2, 0);
            x.decide(0, 0);
            Check.same("the value", x.value(1, 1), what == PUT ? 2 : 42);
            x.learn(1);
            x.sync(1);
            Check.deliverAll(x);
            Check.same("the answer", x.client(1, 2), what == PUT ? 40 : 42);
            Check.same("audit", x.audit(), 0);
        }
    }

    // "none of the LOG is LATE"
    private static void noneOfTheLogIsLate() {
        OneTrip x = roomy(1);
        x.ask(0, PUT, 1, 5);
        x.ask(1, ADD, 1, 6);
        Check.deliver(x, EXEC, 0);
        Check.deliver(x, EXEC, 1);
        Check.same("the second one is LATE", Check.many(x, ANSWER), 1);
        Check.deliver(x, SYNC, 0);
        Check.loseAll(x);
        x.decide(0, 0);
        x.learn(1);
        x.deliver(0);
        Check.lettersFrom(1, "ANSWER, no SYNC", x, ANSWER, 1, 1, 1);
        x.deliver(1);
        Check.client("not SAFE", x, 1, 1, 0, 0, 1, 0, 1, 0);
        Check.loseAll(x);
        x.sync(1);
        Check.syncAndAck(x, 0);
        Check.letters("SYNCED without an ANSWER", x, RESET, 1, 0, 0, GC, 1, 0, 2);
    }

    // "(its LOG stays as it was: the first ones of the new one)"
    private static void theBackupsLogStays() {
        OneTrip x = roomy(2);
        Check.told(x, 0, PUT, 1, 5);
        x.sync(0);
        Check.deliverAll(x);
        record(x, 1, PUT, 2, 6, 1);
        x.decide(1, 1);
        Check.master("two", x, 1, 1, 2, 0, 0, 2);
        Check.backup("one", x, 1, 1, 1);
        Check.backup("the other one", x, 0, 0, 1);
        x.decide(1, 0);
        Check.master("of that one", x, 2, 1, 1, 0, 0, 1);
        Check.same("the first one of epoch 1", x.value(2, 1), 5);
        x.sync(2);
        Check.deliver(x, SYNC, 1);
        Check.letters("it tells what it has", x, SYNC, 2, 0, 1, Check.ACK, 2, 1, 1);
    }

    // "No BACKUP is known to have anything."
    private static void noBackupIsKnownToHaveAnything() {
        OneTrip x = roomy(2);
        Check.told(x, 0, PUT, 1, 5);
        x.sync(0);
        Check.deliverAll(x);
        Check.same("SYNCED of epoch 0", x.master(0, 2), 1);
        x.decide(0, 0);
        Check.master("not of epoch 1", x, 1, 1, 1, 0, 0, 1);
        x.learn(1);
        x.ask(1, PUT, 1, 6);
        Check.deliver(x, EXEC, 1);
        Check.same("one of that KEY is LATE behind it", Check.many(x, ANSWER), 0);
        Check.loseAll(x);
        x.sync(1);
        Check.syncAndAck(x, 1);
        Check.same("the chosen one told nothing", x.master(1, 2), 0);
        Check.syncAndAck(x, 0);
        Check.same("both told", x.master(1, 2), 2);
    }

    // "CLIENTS don't know it till learn()."
    private static void clientsDoNotKnowIt() {
        OneTrip x = roomy(1);
        x.ask(0, PUT, 1, 5);
        x.decide(0, 0);
        Check.client("epoch 0", x, 0, 1, 0, 0, 0, 0, 0, 0);
        x.retry(0);
        Check.same("retry asks epoch 0", x.letter(x.count(0) - 1, 1), 0);
        x.ask(1, PUT, 2, 5);
        Check.same("ask too", x.letter(x.count(0) - 1, 1), 0);
        Check.same("learn", x.learn(1), 1);
        Check.client("one that has learned", x, 1, 1, 0, 0, 1, 0, 0, 0);
        Check.client("one that has not", x, 0, 1, 0, 0, 0, 0, 0, 0);
    }

    // a manager may decide behind a crash, with every master crashed
    private static void aCrashedMasterIsFollowed() {
        OneTrip x = roomy(1);
        Check.told(x, 0, PUT, 1, 5);
        x.sync(0);
        Check.deliver(x, SYNC, 0);
        x.crash(0);
        Check.same("epoch 1", x.decide(0, 0), 1);
        Check.master("the crashed one's LOG", x, 1, 1, 1, 0, 0, 1);
        x.crash(1);
        Check.same("epoch 2", x.decide(0, 0), 2);
        Check.master("that of epoch 1", x, 2, 1, 1, 0, 0, 1);
        Check.same("audit", x.audit(), 0);
    }

    // "from any one backup and any one witness"
    private static void anyBackupAndAnyWitness() {
        for (int b = 0; b < 3; b++) {
            for (int w = 0; w < 3; w++) {
                OneTrip x = roomy(3);
                Check.told(x, 0, PUT, 1, 5);
                x.sync(0);
                Check.deliverAll(x);
                Check.told(x, 1, ADD, 1, 6);
                Check.told(x, 2, PUT, 2, 7);
                x.sync(0);
                Check.deliver(x, SYNC, 1);
                Check.loseAll(x);
                x.decide(b, w);
                Check.same("all that was done", x.value(1, 1) * 100 + x.value(1, 2), 1107);
                Check.same("audit", x.audit(), 0);
            }
        }
    }

    // "of the MASTER of the latest EPOCH (if it does not live: 0)"
    private static void auditOfAMasterThatDoesNotLive() {
        OneTrip x = roomy(1);
        Check.same("of a new object", x.audit(), 0);
        x.crash(0);
        Check.same("of a crashed one", x.audit(), 0);
        OneTrip y = roomy(1);
        Check.told(y, 0, PUT, 1, 5);
        y.decide(0, 0);
        y.crash(1);
        Check.same("the latest one is crashed, the one before is not", y.audit(), 0);
    }

    // "each UPDATE that is DONE stands once in its LOG, with the answer told"
    private static void auditOfAnUpdateThatIsDone() {
        OneTrip x = roomy(2);
        for (int i = 0; i < 8; i++) {
            Check.told(x, i % 4, i % 2, i, Integer.MAX_VALUE - i);
            Check.same("done by ACCEPTS", x.client(i % 4, 6), 1 + i / 4);
            Check.same("audit", x.audit(), 0);
        }
        x.decide(1, 0);
        Check.same("also of the RECORDS", x.audit(), 0);
    }

    // those that are not DONE count for nothing
    private static void auditOfOneThatIsNotDone() {
        OneTrip x = roomy(1);
        x.ask(0, PUT, 1, 5);
        x.ask(1, GET, 1, 5);
        Check.same("asked for", x.audit(), 0);
        Check.deliver(x, EXEC, 0);
        Check.same("in the LOG", x.audit(), 0);
        x.decide(0, 0);
        Check.same("not in the latest LOG", x.audit(), 0);
    }

    // "of two of one KEY, one DONE before the other was asked for stands ahead"
    private static void auditOfTwoOfOneKey() {
        OneTrip x = roomy(2);
        x.ask(0, PUT, 1, 5);
        x.ask(1, PUT, 1, 6);
        x.ask(2, PUT, 1, 7);
        Check.deliver(x, EXEC, 2);
        Check.deliver(x, EXEC, 1);
        Check.deliver(x, EXEC, 0);
        Check.deliverAll(x);
        Check.same("all are done", x.count(3), 3);
        Check.same("asked for at once, they stand in any order", x.audit(), 0);
        Check.told(x, 3, PUT, 1, 8);
        Check.same("one behind the others", x.audit(), 0);
        x.decide(0, 1);
        Check.same("in the next epoch", x.audit(), 0);
        Check.same("its value", x.value(1, 1), 8);
    }

    // "each GET that is DONE told the VALUE that its KEY has behind some first ones of its LOG"
    private static void auditOfAGetBetweenUpdates() {
        OneTrip x = roomy(2);
        Check.told(x, 0, PUT, 1, 5);
        x.ask(1, GET, 1, 0);
        Check.deliver(x, EXEC, 1);
        x.ask(0, PUT, 1, 6);
        Check.deliver(x, EXEC, 0);
        Check.deliverAll(x);
        Check.client("between the two", x, 1, 1, 1, 5, 0, 0, 0, 0);
        Check.same("audit", x.audit(), 0);
        Check.same("behind both", Check.told(x, 1, GET, 1, 0), 6);
        Check.told(x, 2, PUT, 1, 7);
        Check.same("ahead of the third", x.audit(), 0);
        x.decide(1, 1);
        Check.same("in the next epoch", x.audit(), 0);
    }

    // "behind some first ones of its LOG": of none
    private static void auditOfAGetOfAnEmptyLog() {
        OneTrip x = roomy(1);
        Check.same("0", Check.told(x, 0, GET, 1, 0), 0);
        Check.same("an empty LOG", x.audit(), 0);
        Check.told(x, 1, PUT, 1, 5);
        Check.same("ahead of all", x.audit(), 0);
    }
}
