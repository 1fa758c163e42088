/** 'Terms' 2, each sentence with an edge in it: the row, and what each letter does to its reader. */
public final class EdgesOfLettersTest {
    private static final int PUT = Check.PUT;
    private static final int ADD = Check.ADD;
    private static final int GET = Check.GET;
    private static final int EXEC = Check.EXEC;
    private static final int RECORD = Check.RECORD;
    private static final int ANSWER = Check.ANSWER;
    private static final int ACCEPT = Check.ACCEPT;
    private static final int REJECT = Check.REJECT;
    private static final int SYNCNOW = Check.SYNCNOW;
    private static final int SYNC = Check.SYNC;
    private static final int ACK = Check.ACK;
    private static final int GC = Check.GC;
    private static final int RESET = Check.RESET;

    public static void main(String[] args) {
        theRowTakes250();
        oneThatWouldBeMoreIsLostAtOnce();
        deliverTakesOneOutAheadOfReading();
        whatIsSentComesToTheEnd();
        anUpdateGoesToEachWitness();
        askingForgetsAcceptsAndAnswer();
        execAtACrashedMaster();
        execOfAnUpdateAmongTheSyncedOnes();
        execOfALateOneAgain();
        execOfOneThatIsNotLateAgain();
        execBehindAGreaterNumber();
        execIsLateBehindTheSyncedOnesOnly();
        execLateByItsOwnKeyOnly();
        execOfALateOneAnswersNothing();
        execSyncsAtTheBatchAndNotBelow();
        execCountsTheBatchBehindTheSyncedOnes();
        execOfAGetThatWaits();
        execOfAGetThatWaitedBefore();
        syncCountsEachCallToAll();
        syncOfALesserEpoch();
        syncOfAGreaterEpoch();
        syncOfItsOwnEpoch();
        syncOfALogOfNone();
        syncBehindACrash();
        ackAtACrashedMaster();
        ackOfLessThanWasTold();
        ackConfirmsByItsCount();
        ackOfOneBackupConfirmsForItAlone();
        ackAnswersTheLateAndTheAskedFor();
        ackAnswersOnlyWhatIsSyncedNow();
        ackAnswersNothingBehindTheSyncedOnes();
        ackSettlesWhenAllHaveTold();
        ackSettlesAtWhatTheEpochBeganWith();
        ackSettlesNotBelowWhatTheEpochBeganWith();
        ackSettlesEpoch0Silently();
        ackSendsGcWhenSyncedIsGreater();
        ackAnswersGetsInTheirOrder();
        ackAnswersGetsByTheirPlace();
        ackAnswersNoGetWithAPlaceAboveSynced();
        ackAnswersAGetOnce();
        ackTellsInTheOrderOfTheDocument();
        Check.close("EdgesOfLettersTest");
    }

    private static OneTrip roomy(int f) {
        return new OneTrip(f, 4, 4, 10);
    }

    /** Doubles the first letter (a SYNC, if there is none) till there are so many. */
    private static void fill(OneTrip x, int many) {
        if (x.count(0) == 0) {
            x.sync(0);
        }
        while (x.count(0) < many) {
            x.twice(0);
        }
        Check.same("so many letters", x.count(0), many);
    }

    // "LETTERS are on their way in a row, as they were sent, at most 250"
    private static void theRowTakes250() {
        OneTrip x = new OneTrip(1, 1, 1, 10);
        fill(x, 249);
        x.sync(0);
        Check.same("250", x.count(0), 250);
        Check.same("none was lost", x.count(4), 0);
        x.ask(0, GET, 1, 0);
        Check.same("251 are too many", x.count(0), 250);
        Check.same("the last one stays", x.letter(249, 0), SYNC);
        Check.same("one was lost", x.count(4), 1);
        Check.same("the operation is asked for all the same", x.client(0, 0), 1);
        x.lose(17);
        x.retry(0);
        Check.same("250 again", x.count(0), 250);
        Check.same("at the end", x.letter(249, 0), EXEC);
        Check.same("none more was lost", x.count(4), 1);
    }

    // "one that would be more is lost at once"
    private static void oneThatWouldBeMoreIsLostAtOnce() {
        for (int free = 0; free <= 4; free++) {
            OneTrip x = roomy(3);
            fill(x, 250 - free);
            x.ask(1, PUT, 1, 1);
            Check.same("full, or just not too many", x.count(0), 250);
            Check.same("lost of EXEC and three RECORDS", x.count(4), 4 - free);
            Check.same("EXEC comes first", Check.many(x, EXEC), Math.min(1, free));
            Check.same("then RECORDS", Check.many(x, RECORD), Math.max(0, free - 1));
            for (int w = 0; w < free - 1; w++) {
                Check.same("by their numbers", x.letter(251 - free + w, 2), w);
            }
            x.lose(0);
            Check.same("what was lost does not come back", x.count(0), 249);
        }
        OneTrip y = roomy(1);
        fill(y, 250);
        Check.same("one that comes once more is lost too", y.twice(3), 250);
        Check.same("and counted", y.count(4), 1);
    }

    // "deliver() takes one out of the row and has it read"
    private static void deliverTakesOneOutAheadOfReading() {
        OneTrip x = roomy(1);
        x.ask(0, PUT, 1, 1);
        fill(x, 250);
        Check.same("its ANSWER has room", x.deliver(0), 250);
        Check.same("at the end", x.letter(249, 0), ANSWER);
        Check.same("none was lost", x.count(4), 0);
        OneTrip y = new OneTrip(1, 4, 4, 1);
        y.ask(0, PUT, 1, 1);
        fill(y, 250);
        Check.same("ANSWER has room, SYNC has not", y.deliver(0), 250);
        Check.same("the first one sent", y.letter(249, 0), ANSWER);
        Check.same("the second one was lost", y.count(4), 1);
        Check.same("what was read is done all the same", y.master(0, 1), 1);
    }

    // "what is sent by that comes to the row's end, in the order told"
    private static void whatIsSentComesToTheEnd() {
        OneTrip x = new OneTrip(2, 4, 4, 1);
        x.ask(0, PUT, 1, 1);
        x.ask(1, GET, 1, 1);
        Check.same("ANSWER, SYNC to each", x.deliver(0), 6);
        Check.letters("the others keep their order", x, RECORD, 0, 0, 1, RECORD, 0, 1, 1,
                EXEC, 0, 1, 1, ANSWER, 0, 0, 1, SYNC, 0, 0, 1, SYNC, 0, 1, 1);
        x.deliver(4);
        Check.letters("taken out of the middle", x, RECORD, 0, 0, 1, RECORD, 0, 1, 1,
                EXEC, 0, 1, 1, ANSWER, 0, 0, 1, SYNC, 0, 1, 1, ACK, 0, 0, 1);
    }

    // "EXEC to the MASTER of that EPOCH, then, of an UPDATE, RECORD to each WITNESS, by their
    // numbers"
    private static void anUpdateGoesToEachWitness() {
        for (int f = 1; f <= 3; f++) {
            for (int what = PUT; what <= GET; what++) {
                OneTrip x = roomy(f);
                x.decide(0, 0);
                x.learn(2);
                x.ask(2, what, 3, 4);
                Check.same("how many letters", x.count(0), what == GET ? 1 : 1 + f);
                Check.same("EXEC", x.letter(0, 0), EXEC);
                for (int k = 0; k < x.count(0); k++) {
                    Check.same("of the epoch that it knows", x.letter(k, 1), 1);
                    Check.same("RECORD to", x.letter(k, 2), k == 0 ? 2 : k - 1);
                    Check.same("the number", x.letter(k, 3), 1);
                }
            }
        }
    }

    // "It has no ACCEPTS and no ANSWER then."
    private static void askingForgetsAcceptsAndAnswer() {
        OneTrip x = roomy(2);
        x.ask(0, PUT, 1, 5);
        Check.deliver(x, RECORD, 0);
        Check.deliver(x, ACCEPT, 0);
        Check.client("an accept", x, 0, 1, 0, 0, 0, 1, 0, 0);
        x.retry(0);
        Check.client("none behind retry", x, 0, 1, 0, 0, 0, 0, 0, 0);
        Check.deliver(x, EXEC, 0);
        Check.deliver(x, ANSWER, 0);
        Check.client("an answer", x, 0, 1, 0, 0, 0, 0, 1, 0);
        x.decide(0, 0);
        x.learn(0);
        Check.client("none behind learn", x, 0, 1, 0, 0, 1, 0, 0, 0);
        Check.loseAll(x);
        OneTrip y = roomy(1);
        y.ask(0, PUT, 1, 5);
        Check.deliver(y, EXEC, 0);
        Check.deliver(y, ANSWER, 0);
        y.retry(0);
        Check.deliver(y, RECORD, 0);
        Check.deliver(y, ACCEPT, 0);
        Check.client("an accept does not go with a forgotten answer", y, 0, 1, 0, 0, 0, 1, 0, 0);
        Check.deliverAll(y);
        Check.client("done", y, 0, 1, 1, 0, 0, 1, 0, 1);
        y.ask(0, PUT, 2, 5);
        Check.client("none of the next one", y, 0, 2, 0, 0, 0, 0, 0, 1);
        y.deliver(0);
        Check.deliver(y, ANSWER, 0);
        Check.client("the accept of before does not count", y, 0, 2, 0, 0, 0, 0, 1, 1);
    }

    // "EXEC at a MASTER that lives"
    private static void execAtACrashedMaster() {
        OneTrip x = new OneTrip(1, 4, 4, 1);
        Check.told(x, 0, PUT, 1, 5);
        x.ask(0, PUT, 1, 6);
        x.ask(1, GET, 1, 0);
        x.twice(0);
        x.crash(0);
        for (int c : new int[] {0, 1, 0}) {
            int before = x.count(0);
            x.deliver(Check.find(x, EXEC, c));
            Check.same("it sends nothing", x.count(0), before - 1);
            Check.master("it writes nothing, nothing waits", x, 0, 0, 1, 1, 0, 0);
        }
    }

    /** Client 0 has key 1 written and synced, client 1 key 2 written; both EXECS are there again. */
    private static OneTrip oneOfTwoSynced() {
        OneTrip x = roomy(1);
        x.ask(0, PUT, 1, 5);
        Check.deliver(x, EXEC, 0);
        Check.loseAll(x);
        x.sync(0);
        Check.syncAndAck(x, 0);
        x.ask(1, PUT, 2, 6);
        Check.deliver(x, EXEC, 1);
        Check.loseAll(x);
        x.retry(0);
        x.retry(1);
        Check.lose(x, RECORD, 0);
        Check.lose(x, RECORD, 0);
        Check.master("one of two", x, 0, 1, 2, 1, 0, 0);
        return x;
    }

    // "ANSWER, SAFE, with that one's answer, if it is among the first SYNCED ones"
    private static void execOfAnUpdateAmongTheSyncedOnes() {
        OneTrip x = oneOfTwoSynced();
        x.deliver(0);
        Check.lettersFrom(1, "the last of the SYNCED ones", x, ANSWER, 0, 0, 1);
        x.deliver(1);
        Check.client("it was SAFE", x, 0, 1, 1, 0, 0, 0, 0, 0);
        x.deliver(0);
        Check.letters("the first one behind them", x, ANSWER, 0, 1, 1);
        x.deliver(0);
        Check.client("it was not SAFE", x, 1, 1, 0, 0, 0, 0, 1, 0);
        Check.same("nothing is written anew", x.master(0, 1), 2);
    }

    // "else, if it was LATE, SYNC to each BACKUP, by their numbers"
    private static void execOfALateOneAgain() {
        OneTrip x = roomy(2);
        x.ask(0, PUT, 1, 5);
        x.ask(1, PUT, 1, 6);
        Check.deliver(x, EXEC, 0);
        Check.deliver(x, EXEC, 1);
        Check.loseAll(x);
        x.retry(1);
        x.twice(0);
        x.deliver(0);
        Check.lettersFrom(3, "not SYNCED: SYNC to each, no ANSWER", x,
                SYNC, 0, 0, 2, SYNC, 0, 1, 2);
        Check.syncAndAck(x, 0);
        Check.syncAndAck(x, 1);
        Check.loseAll(x);
        x.retry(1);
        x.deliver(0);
        Check.lettersFrom(2, "SYNCED: ANSWER, no SYNC", x, ANSWER, 0, 1, 1);
        x.deliver(2);
        Check.client("SAFE, with its own answer", x, 1, 1, 1, 5, 0, 0, 0, 0);
    }

    // "else ANSWER, not SAFE"
    private static void execOfOneThatIsNotLateAgain() {
        OneTrip x = new OneTrip(2, 4, 4, 1);
        x.ask(0, ADD, 1, 5);
        x.twice(0);
        x.deliver(0);
        Check.lettersFrom(3, "the first time", x, ANSWER, 0, 0, 1, SYNC, 0, 0, 1, SYNC, 0, 1, 1);
        Check.loseAll(x);
        x.retry(0);
        x.deliver(0);
        Check.lettersFrom(2, "again: no SYNC, also at BATCH", x, ANSWER, 0, 0, 1);
        x.deliver(2);
        Check.client("not SAFE", x, 0, 1, 0, 0, 0, 0, 1, 0);
        Check.same("added once", x.value(0, 1), 5);
    }

    // "If it has one of that CLIENT with a greater number: nothing."
    private static void execBehindAGreaterNumber() {
        OneTrip x = roomy(1);
        x.ask(0, GET, 1, 0);
        x.twice(0);
        x.twice(0);
        x.deliver(0);
        Check.syncAndAck(x, 0);
        Check.deliver(x, ANSWER, 0);
        Check.same("two old EXECS", x.count(0), 2);
        x.ask(0, PUT, 1, 5);
        x.deliver(0);
        Check.same("the greater number is not in the LOG yet: it waits", x.master(0, 3), 1);
        Check.lose(x, SYNC, 0);
        x.deliver(1);
        Check.master("now it is", x, 0, 1, 1, 0, 1, 0);
        int before = x.count(0);
        x.deliver(0);
        Check.same("so it sends nothing", x.count(0), before - 1);
        OneTrip y = roomy(1);
        y.ask(0, GET, 1, 0);
        y.twice(0);
        Check.deliver(y, EXEC, 0);
        Check.syncAndAck(y, 0);
        Check.deliver(y, ANSWER, 0);
        Check.told(y, 1, PUT, 1, 5);
        y.ask(0, PUT, 2, 5);
        Check.deliverAll(y);
        Check.same("only another client's number is greater", y.master(0, 3), 0);
        olderOneOfAnotherClient();
    }

    /** A greater number of another client does not count. */
    private static void olderOneOfAnotherClient() {
        OneTrip x = roomy(1);
        Check.told(x, 0, PUT, 1, 5);
        Check.told(x, 0, PUT, 2, 5);
        Check.same("number 1 of client 1 is done", Check.told(x, 1, PUT, 3, 5), 0);
        Check.same("and its GET", Check.told(x, 2, GET, 1, 5), 5);
    }

    // "if its LOG behind the first SYNCED ones has one of that KEY it is LATE"
    private static void execIsLateBehindTheSyncedOnesOnly() {
        OneTrip x = oneOfTwoSynced();
        Check.loseAll(x);
        x.ask(2, PUT, 1, 7);
        x.deliver(0);
        Check.lettersFrom(1, "the last SYNCED one has its KEY", x, ANSWER, 0, 2, 1);
        Check.loseAll(x);
        x.ask(3, PUT, 2, 7);
        x.deliver(0);
        Check.lettersFrom(1, "the first one behind has its KEY", x, SYNC, 0, 0, 4);
        OneTrip y = oneOfTwoSynced();
        Check.loseAll(y);
        y.ask(2, ADD, 9, 7);
        Check.deliver(y, EXEC, 2);
        Check.loseAll(y);
        y.ask(3, ADD, 9, 7);
        y.deliver(0);
        Check.lettersFrom(1, "the last one of the LOG has its KEY", y, SYNC, 0, 0, 4);
    }

    // "has one of that KEY"
    private static void execLateByItsOwnKeyOnly() {
        for (int key = 0; key < 16; key++) {
            OneTrip x = roomy(1);
            x.ask(0, PUT, 6, 1);
            Check.deliver(x, EXEC, 0);
            Check.loseAll(x);
            x.ask(1, ADD, key, 1);
            x.deliver(0);
            Check.same("key " + key + " behind key 6", x.letter(1, 0), key == 6 ? SYNC : ANSWER);
        }
    }

    // "it comes to the LOG's end; LATE: SYNC to each BACKUP, by their numbers (no ANSWER as yet)"
    private static void execOfALateOneAnswersNothing() {
        OneTrip x = new OneTrip(3, 4, 4, 1);
        x.ask(0, PUT, 6, 1);
        Check.deliver(x, EXEC, 0);
        Check.loseAll(x);
        x.ask(1, ADD, 6, 1);
        x.deliver(0);
        Check.lettersFrom(3, "one SYNC to each, also at BATCH", x,
                SYNC, 0, 0, 2, SYNC, 0, 1, 2, SYNC, 0, 2, 2);
        Check.master("it is in the LOG", x, 0, 1, 2, 0, 0, 0);
        Check.same("the value is that behind it", x.value(0, 6), 2);
    }

    // "if the LOG has BATCH or more behind the first SYNCED ones, SYNC to each BACKUP"
    private static void execSyncsAtTheBatchAndNotBelow() {
        for (int batch = 1; batch <= 10; batch++) {
            OneTrip x = new OneTrip(2, 4, 4, batch);
            for (int i = 1; i <= batch + 1 && i <= 12; i++) {
                x.ask(i % 4, PUT, i, 1);
                x.deliver(0);
                Check.same("ANSWER of update " + i, x.letter(2, 0), ANSWER);
                Check.same("SYNCS at update " + i + ", BATCH " + batch, Check.many(x, SYNC),
                        i >= batch ? 2 : 0);
                Check.loseEach(x, SYNC);
                Check.deliverAll(x);
            }
        }
    }

    // "behind the first SYNCED ones"
    private static void execCountsTheBatchBehindTheSyncedOnes() {
        OneTrip x = new OneTrip(1, 4, 4, 2);
        for (int i = 0; i < 3; i++) {
            x.ask(0, PUT, 2 * i, 1);
            x.deliver(0);
            Check.same("the first one behind the SYNCED ones", Check.many(x, SYNC), 0);
            Check.deliverAll(x);
            x.ask(1, PUT, 2 * i + 1, 1);
            x.deliver(0);
            Check.same("the second one", Check.many(x, SYNC), 1);
            Check.deliverAll(x);
            Check.same("all are SYNCED", x.master(0, 2), 2 * i + 2);
        }
    }

    // "it waits (if one of that CLIENT and number does not wait yet), with how many the LOG has
    // just now (its PLACE)"
    private static void execOfAGetThatWaits() {
        OneTrip x = roomy(2);
        x.ask(0, GET, 1, 0);
        x.retry(0);
        x.deliver(0);
        Check.lettersFrom(1, "SYNC to each", x, SYNC, 0, 0, 0, SYNC, 0, 1, 0);
        x.ask(1, PUT, 1, 5);
        Check.deliver(x, EXEC, 1);
        Check.loseAll(x);
        x.retry(0);
        x.deliver(0);
        Check.letters("SYNC to each again", x, SYNC, 0, 0, 1, SYNC, 0, 1, 1);
        Check.same("it waits once", x.master(0, 3), 1);
        x.ask(2, GET, 1, 0);
        Check.deliver(x, EXEC, 2);
        Check.same("another client's GET of that number waits too", x.master(0, 3), 2);
        Check.deliverAll(x);
        Check.client("its PLACE was ahead of the PUT", x, 0, 1, 1, 0, 0, 0, 0, 0);
        Check.client("the other one's was not", x, 2, 1, 1, 5, 0, 0, 0, 0);
        Check.same("audit", x.audit(), 0);
    }

    // "if one ... does not wait yet": one that was answered waits anew
    private static void execOfAGetThatWaitedBefore() {
        OneTrip x = roomy(1);
        x.ask(0, GET, 1, 0);
        x.twice(0);
        x.deliver(0);
        Check.syncAndAck(x, 0);
        Check.same("answered", x.master(0, 3), 0);
        Check.lose(x, ANSWER, 0);
        x.ask(1, PUT, 1, 5);
        Check.deliver(x, EXEC, 1);
        x.deliver(0);
        Check.same("it waits anew", x.master(0, 3), 1);
        Check.deliverAll(x);
        Check.client("told by its second PLACE", x, 0, 1, 1, 5, 0, 0, 0, 0);
        Check.same("audit", x.audit(), 0);
    }

    // "a count of the SYNCS that this MASTER sent (each call to all BACKUPS is one)"
    private static void syncCountsEachCallToAll() {
        OneTrip x = roomy(3);
        x.sync(0);
        x.ask(0, GET, 1, 0);
        Check.deliver(x, EXEC, 0);
        for (int b = 0; b < 3; b++) {
            Check.syncAndAck(x, b);
        }
        Check.same("the call before does not confirm, to no backup", x.master(0, 3), 1);
        for (int b = 0; b < 3; b++) {
            Check.same("not till all three have confirmed", x.master(0, 3), 1);
            Check.syncAndAck(x, b);
        }
        Check.same("all of one call do", x.master(0, 3), 0);
        OneTrip y = roomy(1);
        y.ask(0, GET, 1, 0);
        for (int i = 0; i < 249; i++) {
            y.sync(0);
        }
        y.deliver(0);
        Check.same("the GET's own SYNC is on its way", Check.many(y, SYNC), 250);
        y.deliver(248);
        Check.deliver(y, ACK, 0);
        Check.same("one sent just ahead of it confirms not", y.master(0, 3), 1);
    }

    // "At a BACKUP: of an EPOCH below its own: nothing."
    private static void syncOfALesserEpoch() {
        OneTrip x = roomy(2);
        x.ask(0, PUT, 1, 5);
        Check.deliver(x, EXEC, 0);
        Check.loseAll(x);
        x.sync(0);
        x.decide(0, 0);
        int before = x.count(0);
        Check.deliver(x, SYNC, 0);
        Check.same("no ACK", x.count(0), before - 1);
        Check.backup("its LOG and EPOCH stay", x, 0, 1, 0);
        Check.deliver(x, SYNC, 1);
        Check.backup("the other one has not the new EPOCH", x, 1, 0, 1);
        Check.same("and tells", Check.many(x, ACK), 1);
    }

    // "Of a greater one: it has that EPOCH, and the first N of that MASTER's LOG."
    private static void syncOfAGreaterEpoch() {
        OneTrip x = roomy(2);
        for (int c = 0; c < 3; c++) {
            x.ask(c, PUT, c, 5);
            Check.deliver(x, EXEC, c);
        }
        Check.loseAll(x);
        x.sync(0);
        Check.deliver(x, SYNC, 1);
        Check.backup("all three", x, 1, 0, 3);
        x.decide(0, 0);
        x.sync(1);
        Check.deliver(x, SYNC, 1);
        Check.backup("none of the old LOG", x, 1, 1, 0);
        Check.lettersFrom(x.count(0) - 1, "ACK of that", x, ACK, 1, 1, 0);
        x.decide(1, 0);
        x.decide(1, 0);
        x.sync(3);
        Check.deliver(x, SYNC, 0);
        Check.backup("the old epoch's SYNC is none", x, 0, 1, 0);
        Check.deliver(x, SYNC, 0);
        Check.backup("nor one of its own epoch that is no more", x, 0, 1, 0);
        Check.deliver(x, SYNC, 0);
        Check.backup("two greater", x, 0, 3, 0);
    }

    // "Of its own: the first N of that LOG, if it has fewer. Then ACK, to that MASTER, with how
    // many it has and that count."
    private static void syncOfItsOwnEpoch() {
        OneTrip x = roomy(1);
        x.sync(0);
        for (int c = 0; c < 2; c++) {
            x.ask(c, PUT, c, 5);
            Check.deliver(x, EXEC, c);
            x.sync(0);
        }
        Check.keepOnly(x, SYNC);
        Check.letters("of none, of one, of two", x, SYNC, 0, 0, 0, SYNC, 0, 0, 1, SYNC, 0, 0, 2);
        x.twice(1);
        x.deliver(1);
        Check.backup("it had fewer", x, 0, 0, 1);
        Check.lettersFrom(3, "ACK", x, ACK, 0, 0, 1);
        x.deliver(2);
        Check.backup("it had as many", x, 0, 0, 1);
        Check.lettersFrom(3, "ACK too", x, ACK, 0, 0, 1);
        x.deliver(1);
        Check.backup("it had fewer", x, 0, 0, 2);
        x.deliver(0);
        Check.backup("it had more", x, 0, 0, 2);
        Check.letters("ACKS tell what it has", x,
                ACK, 0, 0, 1, ACK, 0, 0, 1, ACK, 0, 0, 2, ACK, 0, 0, 2);
    }

    // A LOG of none
    private static void syncOfALogOfNone() {
        OneTrip x = roomy(1);
        x.sync(0);
        x.deliver(0);
        Check.letters("ACK of none", x, ACK, 0, 0, 0);
        Check.same("nothing comes of it", x.deliver(0), 0);
        Check.master("none is SYNCED", x, 0, 1, 0, 0, 0, 0);
    }

    // "(What the MASTER had written is told as it was sent, also if it has crashed since.)"
    private static void syncBehindACrash() {
        OneTrip x = roomy(1);
        x.ask(0, PUT, 1, 5);
        Check.deliver(x, EXEC, 0);
        Check.loseAll(x);
        x.sync(0);
        x.ask(1, PUT, 2, 5);
        Check.deliver(x, EXEC, 1);
        x.crash(0);
        Check.same("N is as it was sent", x.letter(0, 3), 1);
        x.deliver(0);
        Check.backup("so many", x, 0, 0, 1);
        x.decide(0, 0);
        Check.same("it was the first one", x.value(1, 1), 5);
        Check.same("not the second one", x.value(1, 2), 0);
    }

    // "ACK at a MASTER that lives"
    private static void ackAtACrashedMaster() {
        OneTrip x = roomy(1);
        x.decide(0, 0);
        x.learn(0);
        x.ask(0, PUT, 1, 5);
        Check.deliver(x, EXEC, 0);
        Check.loseAll(x);
        x.sync(1);
        x.deliver(0);
        x.crash(1);
        Check.same("no RESET, no GC", x.deliver(0), 0);
        Check.master("nothing is known", x, 1, 0, 1, 0, 0, 0);
    }

    // "what that BACKUP has is known (the greatest told counts)"
    private static void ackOfLessThanWasTold() {
        OneTrip x = roomy(1);
        x.sync(0);
        x.deliver(0);
        x.ask(0, PUT, 1, 5);
        Check.deliver(x, EXEC, 0);
        x.sync(0);
        Check.deliver(x, SYNC, 0);
        Check.letters("an ACK of none, an ACK of one", x, ACK, 0, 0, 0, RECORD, 0, 0, 1,
                ANSWER, 0, 0, 1, ACK, 0, 0, 1);
        x.deliver(3);
        Check.same("one is SYNCED", x.master(0, 2), 1);
        Check.lose(x, GC, 0);
        x.deliver(0);
        Check.same("it stays so", x.master(0, 2), 1);
        Check.same("nothing is sent", x.count(0), 2);
    }

    // "Each GET that waits and whose SYNC had a count not above that of the ACK is CONFIRMED"
    private static void ackConfirmsByItsCount() {
        int[] due = {1, 0, 0};
        for (int chosen = 0; chosen < due.length; chosen++) {
            OneTrip x = roomy(1);
            x.sync(0);
            x.ask(0, GET, 3, 0);
            x.deliver(1);
            x.sync(0);
            Check.letters("before, its own, behind it", x,
                    SYNC, 0, 0, 0, SYNC, 0, 0, 0, SYNC, 0, 0, 0);
            x.deliver(chosen);
            x.deliver(2);
            Check.same("GETS that wait behind ACK " + chosen, x.master(0, 3), due[chosen]);
        }
        OneTrip y = roomy(1);
        for (int c = 0; c < 3; c++) {
            y.ask(c, GET, c, 0);
            Check.deliver(y, EXEC, c);
        }
        Check.letters("a SYNC of each", y, SYNC, 0, 0, 0, SYNC, 0, 0, 0, SYNC, 0, 0, 0);
        y.deliver(1);
        y.deliver(2);
        Check.same("one waits", y.master(0, 3), 1);
        Check.letters("the first two are answered", y, SYNC, 0, 0, 0, SYNC, 0, 0, 0,
                ANSWER, 0, 0, 1, ANSWER, 0, 1, 1);
    }

    // "is CONFIRMED by that BACKUP"; "that all BACKUPS have CONFIRMED"
    private static void ackOfOneBackupConfirmsForItAlone() {
        OneTrip x = roomy(3);
        x.ask(0, GET, 3, 0);
        x.deliver(0);
        Check.syncAndAck(x, 1);
        x.sync(0);
        Check.syncAndAck(x, 1);
        Check.syncAndAck(x, 2);
        Check.same("two of three, one of them twice", x.master(0, 3), 1);
        Check.deliver(x, SYNC, 0);
        Check.same("the third one's ACK is on its way", x.master(0, 3), 1);
        Check.deliver(x, ACK, 0);
        Check.same("all three", x.master(0, 3), 0);
    }

    /** Updates 0 to 3 of a LOG: not LATE, LATE, not LATE but with a SYNCNOW, LATE and with one. */
    private static OneTrip fourInTheLog() {
        OneTrip x = new OneTrip(1, 1, 1, 10);
        x.ask(0, PUT, 1, 5);
        x.ask(1, PUT, 1, 6);
        x.ask(2, PUT, 2, 7);
        x.ask(3, ADD, 2, 8);
        for (int c = 0; c < 4; c++) {
            Check.deliver(x, EXEC, c);
        }
        Check.deliver(x, RECORD, 0);
        Check.deliver(x, RECORD, 0);
        Check.lose(x, REJECT, 1);
        Check.deliver(x, RECORD, 0);
        Check.deliver(x, RECORD, 0);
        Check.deliver(x, REJECT, 2);
        Check.deliver(x, REJECT, 3);
        Check.deliver(x, SYNCNOW, 3);
        Check.deliver(x, SYNCNOW, 2);
        Check.loseEach(x, SYNC);
        x.sync(0);
        Check.letters("answers of those that are not LATE, an accept, a SYNC of all", x,
                ANSWER, 0, 0, 1, ANSWER, 0, 2, 1, ACCEPT, 0, 0, 1, SYNC, 0, 0, 4);
        return x;
    }

    // "ANSWER, SAFE, for each UPDATE that is SYNCED now and was not, and was LATE or had a
    // SYNCNOW, in the LOG's order"
    private static void ackAnswersTheLateAndTheAskedFor() {
        OneTrip x = fourInTheLog();
        Check.loseAll(x);
        x.sync(0);
        Check.syncAndAck(x, 0);
        Check.letters("not for the first one", x, ANSWER, 0, 1, 1, ANSWER, 0, 2, 1,
                ANSWER, 0, 3, 1, GC, 0, 0, 4);
        Check.deliverAll(x);
        int[] told = {0, 5, 0, 15};
        for (int c = 1; c < 4; c++) {
            Check.client("by the SAFE answer", x, c, 1, 1, told[c], 0, 0, 0, 0);
        }
        Check.client("nothing told it", x, 0, 1, 0, 0, 0, 0, 0, 0);
    }

    // "that is SYNCED now and was not"
    private static void ackAnswersOnlyWhatIsSyncedNow() {
        OneTrip x = fourInTheLog();
        Check.syncAndAck(x, 0);
        Check.loseAll(x);
        x.sync(0);
        x.deliver(0);
        Check.same("an ACK of the same: nothing", x.deliver(0), 0);
        x.retry(0);
        Check.deliver(x, EXEC, 0);
        Check.deliver(x, ANSWER, 0);
        Check.client("SYNCED: SAFE", x, 0, 1, 1, 0, 0, 0, 0, 0);
        x.ask(0, PUT, 1, 9);
        Check.deliver(x, EXEC, 0);
        Check.loseAll(x);
        x.sync(0);
        x.deliver(0);
        x.deliver(0);
        Check.letters("the LATE ones of before are not told again", x, GC, 0, 0, 5);
    }

    // "for each UPDATE that is SYNCED now": the first one behind them is LATE too
    private static void ackAnswersNothingBehindTheSyncedOnes() {
        OneTrip x = roomy(1);
        for (int c = 0; c < 4; c++) {
            x.ask(c, ADD, 1, 5);
            Check.deliver(x, EXEC, c);
        }
        Check.keepOnly(x, SYNC);
        Check.letters("one of each LATE one", x, SYNC, 0, 0, 2, SYNC, 0, 0, 3, SYNC, 0, 0, 4);
        int[] told = {0, 10, 15, 20};
        for (int c = 1; c < 4; c++) {
            Check.syncAndAck(x, 0);
            Check.lettersFrom(3 - c, "the last of the SYNCED ones alone", x,
                    ANSWER, 0, c, 1, GC, 0, 0, c + 1);
            Check.deliver(x, ANSWER, c);
            Check.lose(x, GC, 0);
            Check.client("SAFE", x, c, 1, 1, told[c], 0, 0, 0, 0);
        }
    }

    // "If of all BACKUPS something is known ... for the first time, the EPOCH is SETTLED: RESET to
    // each WITNESS"
    private static void ackSettlesWhenAllHaveTold() {
        for (int f = 1; f <= 3; f++) {
            OneTrip x = roomy(f);
            x.decide(f - 1, 0);
            x.sync(1);
            x.sync(1);
            for (int b = 0; b < f; b++) {
                Check.same("not yet", Check.many(x, RESET), 0);
                Check.syncAndAck(x, b);
            }
            Check.same("all have told: to each witness", Check.many(x, RESET), f);
            for (int b = 0; b < f; b++) {
                Check.syncAndAck(x, b);
            }
            Check.same("for the first time only", Check.many(x, RESET), f);
            Check.same("a LOG of none: no GC", Check.many(x, GC), 0);
            Check.letters("by their numbers", x, resets(f));
        }
    }

    private static int[] resets(int f) {
        int[] all = new int[4 * f];
        for (int w = 0; w < f; w++) {
            all[4 * w] = RESET;
            all[4 * w + 1] = 1;
            all[4 * w + 2] = w;
        }
        return all;
    }

    // "and SYNCED is not below what the LOG had when the EPOCH began"
    private static void ackSettlesAtWhatTheEpochBeganWith() {
        OneTrip x = roomy(2);
        for (int c = 0; c < 3; c++) {
            Check.told(x, c, PUT, c, 5);
        }
        x.decide(0, 0);
        Check.master("it began with three", x, 1, 1, 3, 0, 0, 3);
        x.sync(1);
        x.learn(3);
        x.ask(3, PUT, 3, 5);
        Check.deliver(x, EXEC, 3);
        Check.syncAndAck(x, 0);
        Check.same("nothing SYNCED yet, though one told", x.master(1, 2), 0);
        Check.same("no RESET", Check.many(x, RESET), 0);
        Check.syncAndAck(x, 1);
        Check.master("just what it began with, of four", x, 1, 1, 4, 3, 0, 3);
        Check.same("RESET to both", Check.many(x, RESET), 2);
        Check.loseAll(x);
        x.sync(1);
        Check.same("sync() sends them from now on", Check.many(x, RESET), 2);
        Check.loseAll(x);
        x.sync(1);
        Check.lose(x, RESET, 0);
        Check.lose(x, RESET, 1);
        Check.syncAndAck(x, 0);
        Check.syncAndAck(x, 1);
        Check.same("SYNCED is greater", x.master(1, 2), 4);
        Check.letters("GC, no RESET", x, GC, 1, 0, 4, GC, 1, 1, 4);
    }

    // "and SYNCED is not below what the LOG had when the EPOCH began": no run of calls comes below
    // it, so what it began with is made greater from inside
    private static void ackSettlesNotBelowWhatTheEpochBeganWith() {
        OneTrip x = roomy(1);
        x.decide(0, 0);
        x.learn(0);
        Inside.set(Inside.master(x, 1), "began", 2);
        for (int i = 1; i <= 3; i++) {
            x.ask(0, PUT, i, 5);
            Check.deliver(x, EXEC, 0);
            Check.loseAll(x);
            x.sync(1);
            Check.same("sync()", Check.many(x, RESET), i == 3 ? 1 : 0);
            Check.loseEach(x, RESET);
            Check.syncAndAck(x, 0);
            Check.same("SYNCED " + i + " of 2", Check.many(x, RESET), i == 2 ? 1 : 0);
            Check.same("GC", Check.many(x, GC), 1);
            x.retry(0);
            Check.deliver(x, EXEC, 0);
            Check.deliver(x, ANSWER, 0);
            Check.loseAll(x);
        }
    }

    // "(not of EPOCH 0)"
    private static void ackSettlesEpoch0Silently() {
        OneTrip x = roomy(2);
        x.sync(0);
        Check.deliverAll(x);
        x.ask(0, PUT, 1, 5);
        Check.deliver(x, EXEC, 0);
        Check.loseAll(x);
        x.sync(0);
        Check.letters("no RESET of sync()", x, SYNC, 0, 0, 1, SYNC, 0, 1, 1);
        Check.syncAndAck(x, 0);
        Check.syncAndAck(x, 1);
        Check.letters("nor of ACKS", x, GC, 0, 0, 1, GC, 0, 1, 1);
    }

    // "If SYNCED is greater by it: GC to each WITNESS."
    private static void ackSendsGcWhenSyncedIsGreater() {
        OneTrip x = roomy(3);
        x.ask(0, PUT, 1, 5);
        Check.deliver(x, EXEC, 0);
        Check.loseAll(x);
        x.sync(0);
        x.sync(0);
        Check.syncAndAck(x, 2);
        Check.syncAndAck(x, 0);
        Check.same("not as long as one told nothing", Check.many(x, GC), 0);
        Check.syncAndAck(x, 1);
        Check.lettersFrom(3, "GC to each, by their numbers", x,
                GC, 0, 0, 1, GC, 0, 1, 1, GC, 0, 2, 1);
        for (int b = 0; b < 3; b++) {
            Check.syncAndAck(x, b);
        }
        Check.same("SYNCED as before: no more", x.count(0), 3);
        x.ask(1, PUT, 2, 5);
        Check.deliver(x, EXEC, 1);
        Check.same("GC tells SYNCED as it was sent", x.letter(0, 3), 1);
    }

    // "Then each GET (in the order in which they came)"
    private static void ackAnswersGetsInTheirOrder() {
        OneTrip x = roomy(1);
        int[] order = {2, 0, 3, 1};
        for (int c : order) {
            x.ask(c, GET, c, 0);
        }
        for (int k = 0; k < 4; k++) {
            x.deliver(0);
        }
        Check.loseAll(x);
        x.sync(0);
        Check.syncAndAck(x, 0);
        Check.letters("as they came", x, ANSWER, 0, 2, 1, ANSWER, 0, 0, 1, ANSWER, 0, 3, 1,
                ANSWER, 0, 1, 1);
        Check.same("none waits", x.master(0, 3), 0);
    }

    // "whose PLACE is not above SYNCED: ANSWER, SAFE, with the VALUE that its KEY had behind the
    // first PLACE of the LOG"
    private static void ackAnswersGetsByTheirPlace() {
        OneTrip x = roomy(1);
        x.ask(0, GET, 1, 0);
        Check.deliver(x, EXEC, 0);
        x.ask(1, PUT, 1, 5);
        Check.deliver(x, EXEC, 1);
        x.ask(2, GET, 1, 0);
        Check.deliver(x, EXEC, 2);
        x.ask(3, ADD, 1, 6);
        Check.deliver(x, EXEC, 3);
        Check.same("the latest value", x.value(0, 1), 11);
        int k = Check.find(x, SYNC, 0);
        Check.same("the SYNC of the first GET has none", x.letter(k, 3), 0);
        Check.syncAndAck(x, 0);
        Check.same("a PLACE of none is not above SYNCED of none", x.master(0, 3), 1);
        Check.same("the second SYNC has one", x.letter(Check.find(x, SYNC, 0), 3), 1);
        Check.syncAndAck(x, 0);
        Check.master("a PLACE of one, SYNCED is one", x, 0, 1, 2, 1, 0, 0);
        Check.deliver(x, ANSWER, 0);
        Check.deliver(x, ANSWER, 2);
        Check.client("ahead of all", x, 0, 1, 1, 0, 0, 0, 0, 0);
        Check.client("behind the PUT, ahead of the ADD", x, 2, 1, 1, 5, 0, 0, 0, 0);
        Check.same("audit", x.audit(), 0);
    }

    // "whose PLACE is not above SYNCED": no run of calls has it above when all have CONFIRMED, so
    // it is made greater from inside
    private static void ackAnswersNoGetWithAPlaceAboveSynced() {
        OneTrip x = roomy(1);
        x.ask(0, GET, 1, 0);
        Check.deliver(x, EXEC, 0);
        Inside.set(Inside.waitingGet(x, 0, 0), "place", 1);
        Check.syncAndAck(x, 0);
        Check.same("CONFIRMED, but its PLACE is above SYNCED", x.master(0, 3), 1);
        x.ask(1, PUT, 1, 5);
        Check.deliver(x, EXEC, 1);
        Check.loseAll(x);
        x.sync(0);
        Check.syncAndAck(x, 0);
        Check.letters("not above", x, GC, 0, 0, 1, ANSWER, 0, 0, 1);
    }

    // "it waits no more"
    private static void ackAnswersAGetOnce() {
        OneTrip x = roomy(1);
        x.ask(0, GET, 1, 0);
        Check.deliver(x, EXEC, 0);
        x.twice(0);
        x.twice(0);
        Check.syncAndAck(x, 0);
        Check.same("answered", Check.many(x, ANSWER), 1);
        Check.syncAndAck(x, 0);
        Check.syncAndAck(x, 0);
        Check.letters("once", x, ANSWER, 0, 0, 1);
    }

    // "(To each: by their numbers.)", and the order of an ACK's four sentences
    private static void ackTellsInTheOrderOfTheDocument() {
        OneTrip x = roomy(2);
        x.decide(1, 1);
        for (int c = 0; c < 4; c++) {
            x.learn(c);
        }
        x.ask(0, GET, 1, 0);
        x.ask(1, PUT, 1, 5);
        x.ask(2, ADD, 1, 6);
        x.ask(3, GET, 1, 0);
        for (int c = 0; c < 4; c++) {
            Check.deliver(x, EXEC, c);
        }
        Check.loseAll(x);
        x.sync(1);
        Check.syncAndAck(x, 1);
        Check.letters("one told nothing", x, SYNC, 1, 0, 2);
        Check.syncAndAck(x, 0);
        Check.letters("the LATE one, RESETS, GCS, the GETS", x, ANSWER, 1, 2, 1,
                RESET, 1, 0, 0, RESET, 1, 1, 0, GC, 1, 0, 2, GC, 1, 1, 2,
                ANSWER, 1, 0, 1, ANSWER, 1, 3, 1);
        x.deliver(6);
        x.deliver(5);
        x.deliver(0);
        Check.client("the first GET", x, 0, 1, 1, 0, 1, 0, 0, 0);
        Check.client("the ADD", x, 2, 1, 1, 11, 1, 0, 0, 0);
        Check.client("the second GET", x, 3, 1, 1, 11, 1, 0, 0, 0);
    }
}
