/**
 * Promises 1 to 18, each sentence with an edge in it: what each call answers at its bounds and
 * what it refuses; of a refused call also that it changed nothing.
 */
public final class EdgesOfCallsTest {
    private static final int PUT = Check.PUT;
    private static final int ADD = Check.ADD;
    private static final int GET = Check.GET;
    private static final int EXEC = Check.EXEC;
    private static final int RECORD = Check.RECORD;
    private static final int ANSWER = Check.ANSWER;
    private static final int ACCEPT = Check.ACCEPT;
    private static final int REJECT = Check.REJECT;
    private static final int SYNCNOW = Check.SYNCNOW;
    private static final int SYNC = Check.SYNC;
    private static final int ACK = Check.ACK;
    private static final int GC = Check.GC;
    private static final int RESET = Check.RESET;
    private static final int[] WRONG = {-1, Integer.MIN_VALUE, Integer.MAX_VALUE};

    public static void main(String[] args) {
        newTakesTheNearestNumbers();
        newReallyHasThem();
        askWhileTheOneBeforeIsNotDone();
        askOfAGetCountsNoV();
        askRefuses();
        retryOfADoneOneOrNone();
        retryRefuses();
        learnOfTheEpochThatItKnows();
        learnOfAnotherEpoch();
        learnRefuses();
        deliverAnswersHowManyAreLeft();
        loseAnswersHowManyAreLeft();
        twiceAnswersHowManyThereAre();
        rowCallsRefuse();
        syncAnswers();
        syncRefuses();
        crashAnswers();
        crashRefuses();
        decideRefuses();
        decideAtTwelve();
        letterTellsEachKind();
        letterRefuses();
        clientAheadOfAny();
        clientBetweenAskAndDone();
        clientRefuses();
        masterThatDoesNotLive();
        masterRefuses();
        valueOfOneThatDoesNotLive();
        valueRefuses();
        backupRefuses();
        witnessTellsItsKeysAsBits();
        witnessRefuses();
        auditAnswers0AndChangesNothing();
        countOfEach();
        countOfAnotherWhat();
        refusedCallsLeaveNoTrace();
        Check.close("EdgesOfCallsTest");
    }

    /** Two epochs, letters of most kinds, clients busy and done, a row with some lost. */
    private static OneTrip inUse() {
        OneTrip x = new OneTrip(2, 2, 2, 3);
        Check.told(x, 0, PUT, 1, 5);
        x.ask(1, ADD, 1, 6);
        x.ask(2, GET, 1, 0);
        x.deliver(0);
        x.deliver(0);
        x.decide(1, 0);
        x.learn(3);
        x.ask(3, PUT, 4, 7);
        x.deliver(1);
        x.sync(1);
        x.deliver(0);
        x.twice(2);
        Check.same("in use", x.count(0) > 8 && x.client(1, 1) == 0, true);
        return x;
    }

    // Promise 1. "F, SETS, WAYS, BATCH (1 to 10); of another number the nearest of these."
    private static void newTakesTheNearestNumbers() {
        int[] most = {3, 4, 4, 10};
        for (int i = 0; i < most.length; i++) {
            int[] given = {Integer.MIN_VALUE, -1, 0, 1, most[i] - 1, most[i], most[i] + 1,
                Integer.MAX_VALUE};
            int[] due = {1, 1, 1, 1, most[i] - 1, most[i], most[i], most[i]};
            for (int j = 0; j < given.length; j++) {
                int[] all = {2, 2, 2, 2};
                all[i] = given[j];
                OneTrip x = new OneTrip(all[0], all[1], all[2], all[3]);
                for (int k = 0; k < 4; k++) {
                    Check.same(given[j] + " as number " + i, x.count(5 + k), k == i ? due[j] : 2);
                }
            }
        }
    }

    // Promise 1. The nearest number is that which counts from then on.
    private static void newReallyHasThem() {
        OneTrip least = new OneTrip(0, 0, 0, 0);
        least.ask(0, PUT, 0, 1);
        Check.same("one WITNESS", least.count(0), 2);
        least.deliver(0);
        Check.letters("BATCH 1: a SYNC to one BACKUP", least, RECORD, 0, 0, 1, ANSWER, 0, 0, 1,
                SYNC, 0, 0, 1);
        least.deliver(0);
        least.ask(1, PUT, 1, 1);
        Check.deliver(least, RECORD, 0);
        Check.same("one set of one place", Check.many(least, REJECT), 1);
        OneTrip most = new OneTrip(9, 9, 9, 99);
        for (int key = 0; key < 16; key++) {
            most.ask(0, PUT, key, 1);
            Check.lose(most, EXEC, 0);
            for (int w = 0; w < 3; w++) {
                Check.deliver(most, RECORD, w);
            }
            Check.same("16 places of three WITNESSES", Check.many(most, ACCEPT), 3);
            Check.deliverAll(most);
            most.retry(0);
            Check.deliver(most, EXEC, 0);
            Check.same("BATCH 10 at update " + key, Check.many(most, SYNC), key < 9 ? 0 : 3);
            Check.loseEach(most, SYNC);
            Check.deliverAll(most);
        }
        Check.witness("all keys", most, 2, 0, 0, 16, 0xffff);
    }

    // Promise 2. "NONE: the one before is not DONE"
    private static void askWhileTheOneBeforeIsNotDone() {
        OneTrip x = new OneTrip(1, 1, 1, 10);
        Check.same("the first one", x.ask(0, PUT, 1, 5), 1);
        for (int what = PUT; what <= GET; what++) {
            int asked = what;
            Check.changesNothing("just asked for", x, OneTrip.NONE, () -> x.ask(0, asked, 2, 6));
        }
        Check.deliver(x, EXEC, 0);
        Check.deliver(x, ANSWER, 0);
        Check.changesNothing("with an answer", x, OneTrip.NONE, () -> x.ask(0, PUT, 2, 6));
        Check.same("another client asks", x.ask(1, PUT, 2, 6), 1);
        Check.deliver(x, RECORD, 0);
        x.deliver(Check.find(x, ACCEPT, 0));
        Check.same("done, it asks again", x.ask(0, PUT, 2, 6), 2);
    }

    // Promise 2. "2 GET (v counts for nothing then)"
    private static void askOfAGetCountsNoV() {
        for (int v : new int[] {Integer.MIN_VALUE, -1, 0, 1, Integer.MAX_VALUE}) {
            OneTrip x = new OneTrip(1, 1, 1, 10);
            Check.told(x, 0, PUT, 1, 5);
            Check.same("the VALUE", Check.told(x, 1, GET, 1, v), 5);
            Check.same("which stays", x.value(0, 1), 5);
        }
    }

    // Promise 2. "IllegalArgumentException: another what."; no such CLIENT, KEY
    private static void askRefuses() {
        OneTrip x = inUse();
        for (int none : Check.noneOf(4)) {
            Check.outOfBounds("client " + none, x, () -> x.ask(none, PUT, 0, 1));
        }
        for (int none : Check.noneOf(16)) {
            Check.outOfBounds("key " + none, x, () -> x.ask(0, GET, none, 1));
        }
        for (int wrong : WRONG) {
            Check.badArgument("what " + wrong, x, () -> x.ask(0, wrong, 0, 1));
            Check.badArgument("what " + wrong + " of a busy one", x, () -> x.ask(1, wrong, 0, 1));
            Check.outOfBounds("nor such a client", x, () -> x.ask(wrong, wrong, 0, 1));
            Check.outOfBounds("nor such a key", x, () -> x.ask(0, wrong, wrong, 1));
        }
        Check.badArgument("what 3", x, () -> x.ask(0, 3, 0, 1));
        Check.outOfBounds("key 16 of a busy one", x, () -> x.ask(1, PUT, 16, 1));
        Check.same("what 0 to 2 are right", x.ask(0, GET, 15, 1), 2);
    }

    // Promise 3. "true; false if its OPERATION is DONE, or there is none."
    private static void retryOfADoneOneOrNone() {
        OneTrip x = new OneTrip(2, 1, 1, 10);
        Check.changesNothing("there is none", x, 0, () -> Check.asBit(x.retry(0)));
        x.ask(0, PUT, 1, 5);
        Check.same("not DONE", x.retry(0), true);
        Check.letters("all letters again", x, EXEC, 0, 0, 1, RECORD, 0, 0, 1, RECORD, 0, 1, 1,
                EXEC, 0, 0, 1, RECORD, 0, 0, 1, RECORD, 0, 1, 1);
        Check.same("and again", x.retry(0), true);
        Check.same("nine letters", x.count(0), 9);
        Check.same("one operation", x.count(2), 1);
        Check.deliverAll(x);
        Check.changesNothing("DONE", x, 0, () -> Check.asBit(x.retry(0)));
        Check.changesNothing("none of another client", x, 0, () -> Check.asBit(x.retry(3)));
        x.ask(0, GET, 1, 5);
        Check.same("the next one", x.retry(0), true);
        Check.letters("EXEC alone", x, EXEC, 0, 0, 2, EXEC, 0, 0, 2);
    }

    // Promise 3. No such CLIENT
    private static void retryRefuses() {
        OneTrip x = inUse();
        for (int none : Check.noneOf(4)) {
            Check.outOfBounds("client " + none, x, () -> Check.asBit(x.retry(none)));
        }
    }

    // Promise 4. "(and, if it is another one, and its OPERATION is not DONE, tries again)"
    private static void learnOfTheEpochThatItKnows() {
        OneTrip x = new OneTrip(2, 1, 1, 10);
        Check.changesNothing("there is none", x, 0, () -> x.learn(0));
        x.ask(0, PUT, 1, 5);
        Check.deliver(x, EXEC, 0);
        Check.deliver(x, ANSWER, 0);
        Check.deliver(x, RECORD, 0);
        Check.deliver(x, ACCEPT, 0);
        Check.changesNothing("the one that it knows, epoch 0", x, 0, () -> x.learn(0));
        x.decide(0, 0);
        Check.same("another one", x.learn(0), 1);
        Check.changesNothing("the one that it knows, epoch 1", x, 1, () -> x.learn(0));
    }

    // Promise 4. "The CLIENT knows the latest EPOCH ...: the EPOCH."
    private static void learnOfAnotherEpoch() {
        OneTrip x = new OneTrip(2, 1, 1, 10);
        x.ask(0, PUT, 1, 5);
        Check.deliverAll(x);
        x.ask(1, PUT, 2, 5);
        Check.loseAll(x);
        x.decide(0, 0);
        x.decide(1, 0);
        x.crash(2);
        Check.same("DONE", x.learn(0), 2);
        Check.same("there is none", x.learn(2), 2);
        Check.same("nothing sent", x.count(0), 0);
        Check.client("what it was told stays", x, 0, 1, 1, 0, 2, 2, 0, 1);
        Check.client("it knows epoch 2", x, 2, 0, 1, 0, 2, 0, 0, 0);
        Check.same("not DONE", x.learn(1), 2);
        Check.letters("it tries again, also at a crashed one", x,
                EXEC, 2, 1, 1, RECORD, 2, 0, 1, RECORD, 2, 1, 1);
        Check.same("it is no new operation", x.count(2), 2);
        while (x.count(1) < 12) {
            x.decide(0, 0);
        }
        Check.same("the last one there can be", x.learn(3), 11);
    }

    // Promise 4. No such CLIENT
    private static void learnRefuses() {
        OneTrip x = inUse();
        for (int none : Check.noneOf(4)) {
            Check.outOfBounds("client " + none, x, () -> x.learn(none));
        }
    }

    // Promise 5. "Letter k of the row (from 0 on) is delivered: how many are on their way then."
    private static void deliverAnswersHowManyAreLeft() {
        OneTrip x = new OneTrip(3, 4, 4, 1);
        x.ask(0, PUT, 1, 5);
        Check.same("the last of four, ACCEPT comes", x.deliver(3), 4);
        Check.same("which is the last then", x.deliver(3), 3);
        Check.client("read", x, 0, 1, 0, 0, 0, 1, 0, 0);
        Check.same("the first, ANSWER and three SYNCS come", x.deliver(0), 6);
        Check.same("the ANSWER", x.deliver(2), 5);
        OneTrip y = new OneTrip(1, 1, 1, 10);
        y.ask(0, GET, 1, 5);
        y.crash(0);
        Check.same("the only one, nothing comes", y.deliver(0), 0);
    }

    // Promise 6. "It is lost: likewise."
    private static void loseAnswersHowManyAreLeft() {
        OneTrip x = new OneTrip(2, 4, 4, 1);
        x.ask(0, PUT, 1, 5);
        Check.same("the last", x.lose(2), 2);
        Check.letters("the others", x, EXEC, 0, 0, 1, RECORD, 0, 0, 1);
        Check.same("the first", x.lose(0), 1);
        Check.letters("the other", x, RECORD, 0, 0, 1);
        Check.same("the only one", x.lose(0), 0);
        Check.master("nobody has read them", x, 0, 1, 0, 0, 0, 0);
        Check.witness("nobody", x, 0, 0, 0, 0, 0);
        Check.same("no letter was too many", x.count(4), 0);
    }

    // Promise 7. "It comes once more to the row's end: likewise."
    private static void twiceAnswersHowManyThereAre() {
        OneTrip x = new OneTrip(1, 4, 4, 10);
        x.ask(0, PUT, 1, 5);
        Check.same("the first", x.twice(0), 3);
        Check.same("the last", x.twice(2), 4);
        Check.same("the middle", x.twice(1), 5);
        Check.letters("at the end", x, EXEC, 0, 0, 1, RECORD, 0, 0, 1, EXEC, 0, 0, 1,
                EXEC, 0, 0, 1, RECORD, 0, 0, 1);
        while (x.count(0) < 250) {
            x.twice(0);
        }
        x.twice(249);
        Check.same("250 are the most", x.twice(0), 250);
        Check.same("the two were lost", x.count(4), 2);
        Check.same("the first stays", x.letter(0, 0), EXEC);
    }

    // Promises 5 to 7. No such letter
    private static void rowCallsRefuse() {
        OneTrip[] all = {new OneTrip(1, 1, 1, 1), inUse(), inUse()};
        while (all[2].count(0) < 250) {
            all[2].sync(0);
        }
        for (OneTrip x : all) {
            int size = x.count(0);
            for (int none : Check.noneOf(size)) {
                Check.outOfBounds("deliver " + none + " of " + size, x, () -> x.deliver(none));
                Check.outOfBounds("lose " + none + " of " + size, x, () -> x.lose(none));
                Check.outOfBounds("twice " + none + " of " + size, x, () -> x.twice(none));
            }
        }
        Check.same("the last of 250", all[2].lose(249), 249);
        Check.outOfBounds("is there no more", all[2], () -> all[2].deliver(249));
    }

    // Promise 8. "The MASTER of an EPOCH sends SYNC to each BACKUP, then, if the EPOCH is SETTLED
    // (not EPOCH 0), RESET to each WITNESS: true; false if it does not live."
    private static void syncAnswers() {
        OneTrip x = new OneTrip(2, 4, 4, 10);
        Check.same("epoch 0", x.sync(0), true);
        Check.deliverAll(x);
        Check.same("epoch 0, settled", x.sync(0), true);
        Check.letters("no RESET", x, SYNC, 0, 0, 0, SYNC, 0, 1, 0);
        Check.loseAll(x);
        x.decide(0, 0);
        Check.same("epoch 1", x.sync(1), true);
        Check.letters("not settled", x, SYNC, 1, 0, 0, SYNC, 1, 1, 0);
        Check.deliverAll(x);
        Check.same("epoch 1, settled", x.sync(1), true);
        Check.letters("SYNC, then RESET, to each", x, SYNC, 1, 0, 0, SYNC, 1, 1, 0,
                RESET, 1, 0, 0, RESET, 1, 1, 0);
        Check.loseAll(x);
        x.decide(1, 1);
        Check.same("an epoch before lives", x.sync(1), true);
        Check.same("and is settled", x.count(0), 4);
        x.crash(1);
        Check.changesNothing("it does not live", x, 0, () -> Check.asBit(x.sync(1)));
        Check.same("the latest", x.sync(2), true);
        x.crash(2);
        Check.changesNothing("the latest, crashed", x, 0, () -> Check.asBit(x.sync(2)));
    }

    // Promise 8. No such MASTER
    private static void syncRefuses() {
        OneTrip x = inUse();
        for (int none : Check.noneOf(2)) {
            Check.outOfBounds("epoch " + none, x, () -> Check.asBit(x.sync(none)));
        }
        x.crash(0);
        Check.outOfBounds("none, whoever lives", x, () -> Check.asBit(x.sync(2)));
    }

    // Promise 9. "The MASTER of an EPOCH crashes: whether it lived."
    private static void crashAnswers() {
        OneTrip x = inUse();
        Check.same("it lived", x.crash(0), true);
        Check.changesNothing("it did not", x, 0, () -> Check.asBit(x.crash(0)));
        Check.same("another one lives", x.master(1, 0), 1);
        Check.same("it lived", x.crash(1), true);
        Check.changesNothing("it did not", x, 0, () -> Check.asBit(x.crash(1)));
    }

    // Promise 9. No such MASTER
    private static void crashRefuses() {
        OneTrip x = inUse();
        for (int none : Check.noneOf(2)) {
            Check.outOfBounds("epoch " + none, x, () -> Check.asBit(x.crash(none)));
        }
        Check.same("none has crashed", x.master(0, 0) + x.master(1, 0), 2);
    }

    // Promise 10. No such BACKUP, WITNESS
    private static void decideRefuses() {
        for (int f = 1; f <= 3; f++) {
            OneTrip x = new OneTrip(f, 1, 1, 1);
            x.ask(0, PUT, 1, 5);
            x.deliver(1);
            int last = f - 1;
            for (int none : Check.noneOf(f)) {
                Check.outOfBounds("backup " + none, x, () -> x.decide(none, last));
                Check.outOfBounds("witness " + none, x, () -> x.decide(last, none));
                Check.outOfBounds("both " + none, x, () -> x.decide(none, none));
            }
            Check.same("the next epoch", x.decide(last, last), 1);
        }
    }

    // Promise 10. "UnsupportedOperationException: there are 12."
    private static void decideAtTwelve() {
        OneTrip x = inUse();
        for (int epoch = 2; epoch < 12; epoch++) {
            Check.same("there are fewer", x.decide(0, 1), epoch);
        }
        for (int i = 0; i < 4; i++) {
            int chosen = i;
            Check.changesNothing("there are 12", x, Check.UNSUPPORTED,
                    () -> x.decide(chosen / 2, chosen % 2));
        }
        Check.outOfBounds("no such backup", x, () -> x.decide(2, 0));
        Check.outOfBounds("no such witness", x, () -> x.decide(0, -1));
        x.crash(11);
        Check.changesNothing("also when the last one has crashed", x, Check.UNSUPPORTED,
                () -> x.decide(0, 0));
    }

    // Promise 11. "what 0: 0 EXEC, 1 RECORD, 2 ANSWER, ..., 2: to which CLIENT, WITNESS, BACKUP
    // (of EXEC, SYNCNOW, ACK: from which); 3: the number of its OPERATION; of SYNC and GC how many
    // of the LOG, of ACK how many that BACKUP has; 0 of RESET"
    private static void letterTellsEachKind() {
        OneTrip x = new OneTrip(3, 4, 4, 10);
        x.decide(0, 0);
        x.learn(3);
        x.ask(3, PUT, 1, 5);
        Check.letters("EXEC from client 3, RECORDS to witnesses", x, 0, 1, 3, 1, 1, 1, 0, 1,
                1, 1, 1, 1, 1, 1, 2, 1);
        x.deliver(3);
        Check.lettersFrom(3, "REJECT to client 3", x, 4, 1, 3, 1);
        x.deliver(3);
        Check.lettersFrom(3, "SYNCNOW from client 3", x, 5, 1, 3, 1);
        x.deliver(0);
        Check.lettersFrom(3, "ANSWER to client 3", x, 2, 1, 3, 1);
        Check.loseAll(x);
        x.sync(1);
        Check.letters("SYNCS to backups, of one", x, 6, 1, 0, 1, 6, 1, 1, 1, 6, 1, 2, 1);
        x.deliver(2);
        Check.lettersFrom(2, "ACK from backup 2, of one", x, 7, 1, 2, 1);
        x.deliver(2);
        x.deliver(0);
        x.deliver(1);
        x.deliver(0);
        x.deliver(0);
        Check.letters("RESETS and GCS to witnesses", x, 9, 1, 0, 0, 9, 1, 1, 0, 9, 1, 2, 0,
                8, 1, 0, 1, 8, 1, 1, 1, 8, 1, 2, 1);
        x.deliver(2);
        Check.loseAll(x);
        x.retry(3);
        x.deliver(3);
        Check.lettersFrom(3, "ACCEPT to client 3", x, 3, 1, 3, 1);
    }

    // Promise 11. "IllegalArgumentException: another what."; no such letter
    private static void letterRefuses() {
        OneTrip[] all = {new OneTrip(1, 1, 1, 1), inUse()};
        for (OneTrip x : all) {
            int size = x.count(0);
            for (int none : Check.noneOf(size)) {
                Check.outOfBounds("letter " + none, x, () -> x.letter(none, 0));
                Check.outOfBounds("what 4 of letter " + none, x, () -> x.letter(none, 4));
            }
        }
        OneTrip x = all[1];
        for (int k = 0; k < x.count(0); k++) {
            int shown = k;
            for (int wrong : WRONG) {
                Check.badArgument("what " + wrong, x, () -> x.letter(shown, wrong));
            }
            Check.badArgument("what 4", x, () -> x.letter(shown, 4));
        }
    }

    // Promise 12. "0 the number of its latest OPERATION (0 ahead of any), 1 1 if it is DONE (or
    // there is none), ... 2 what it was told (0 if it is not DONE, or there is none)"
    private static void clientAheadOfAny() {
        OneTrip x = new OneTrip(3, 1, 1, 1);
        Check.client("ahead of any", x, 3, 0, 1, 0, 0, 0, 0, 0);
        x.decide(0, 0);
        x.learn(3);
        Check.client("it knows epoch 1", x, 3, 0, 1, 0, 1, 0, 0, 0);
    }

    // Promise 12. "5 1 if an ANSWER is known that is not SAFE, and it is not DONE, else 0, 6 how
    // many of its OPERATIONS were DONE by ACCEPTS"
    private static void clientBetweenAskAndDone() {
        OneTrip x = new OneTrip(2, 4, 4, 10);
        x.ask(0, ADD, 1, -7);
        Check.client("asked for", x, 0, 1, 0, 0, 0, 0, 0, 0);
        Check.deliver(x, RECORD, 1);
        Check.deliver(x, ACCEPT, 0);
        Check.client("one accepts", x, 0, 1, 0, 0, 0, 1, 0, 0);
        Check.deliver(x, EXEC, 0);
        Check.deliver(x, ANSWER, 0);
        Check.client("an ANSWER", x, 0, 1, 0, 0, 0, 1, 1, 0);
        Check.deliverAll(x);
        Check.client("DONE by ACCEPTS", x, 0, 1, 1, -7, 0, 2, 0, 1);
        x.ask(0, ADD, 1, -7);
        Check.client("the next one", x, 0, 2, 0, 0, 0, 0, 0, 1);
        Check.deliverAll(x);
        Check.client("LATE, DONE by a SAFE ANSWER", x, 0, 2, 1, -14, 0, 0, 0, 1);
        x.ask(0, GET, 1, 0);
        Check.deliverAll(x);
        Check.client("a GET", x, 0, 3, 1, -14, 0, 0, 0, 1);
        Check.told(x, 0, PUT, 2, 1);
        Check.client("DONE by ACCEPTS once more", x, 0, 4, 1, 0, 0, 2, 0, 2);
        Check.client("others", x, 1, 0, 1, 0, 0, 0, 0, 0);
    }

    // Promise 12. "IllegalArgumentException: another what."; no such CLIENT
    private static void clientRefuses() {
        OneTrip x = inUse();
        for (int none : Check.noneOf(4)) {
            Check.outOfBounds("client " + none, x, () -> x.client(none, 6));
            Check.outOfBounds("what 7 of client " + none, x, () -> x.client(none, 7));
        }
        for (int wrong : WRONG) {
            Check.badArgument("what " + wrong, x, () -> x.client(3, wrong));
        }
        Check.badArgument("what 7", x, () -> x.client(0, 7));
    }

    // Promise 13. "0: 1 if it lives, else 0; ... 3 GETS that wait (0 of one that does not live)"
    private static void masterThatDoesNotLive() {
        OneTrip x = new OneTrip(1, 4, 4, 10);
        Check.told(x, 0, PUT, 1, 5);
        x.sync(0);
        Check.deliver(x, SYNC, 0);
        Check.loseAll(x);
        x.decide(0, 0);
        for (int c = 1; c < 4; c++) {
            x.learn(c);
        }
        x.ask(1, PUT, 2, 6);
        Check.deliver(x, EXEC, 1);
        x.sync(1);
        Check.syncAndAck(x, 0);
        x.ask(1, PUT, 3, 6);
        x.ask(2, GET, 1, 0);
        x.ask(3, PUT, 3, 6);
        Check.deliver(x, EXEC, 2);
        Check.deliver(x, EXEC, 3);
        Check.master("it lives", x, 1, 1, 3, 2, 1, 1);
        x.crash(1);
        Check.master("it does not, the rest stays", x, 1, 0, 3, 2, 0, 1);
        Check.deliverAll(x);
        Check.master("also behind all letters", x, 1, 0, 3, 2, 0, 1);
    }

    // Promise 13. "IllegalArgumentException: another what."; no such MASTER
    private static void masterRefuses() {
        OneTrip x = inUse();
        x.crash(1);
        for (int none : Check.noneOf(2)) {
            Check.outOfBounds("epoch " + none, x, () -> x.master(none, 4));
            Check.outOfBounds("what 5 of epoch " + none, x, () -> x.master(none, 5));
        }
        for (int wrong : WRONG) {
            Check.badArgument("what " + wrong, x, () -> x.master(0, wrong));
            Check.badArgument("what " + wrong + " of one that does not live", x,
                    () -> x.master(1, wrong));
        }
        Check.badArgument("what 5", x, () -> x.master(0, 5));
    }

    // Promise 14. "also if it does not live"
    private static void valueOfOneThatDoesNotLive() {
        OneTrip x = new OneTrip(1, 4, 4, 10);
        x.ask(0, PUT, 0, 5);
        x.ask(1, PUT, 15, 6);
        Check.deliver(x, EXEC, 0);
        x.crash(0);
        Check.deliver(x, EXEC, 1);
        Check.same("written", x.value(0, 0), 5);
        Check.same("not written", x.value(0, 15), 0);
        x.decide(0, 0);
        Check.same("not in the next epoch", x.value(1, 0), 0);
        Check.same("still in epoch 0", x.value(0, 0), 5);
    }

    // Promise 14. No such MASTER, KEY
    private static void valueRefuses() {
        OneTrip x = inUse();
        x.crash(0);
        for (int none : Check.noneOf(2)) {
            Check.outOfBounds("epoch " + none, x, () -> x.value(none, 0));
        }
        for (int none : Check.noneOf(16)) {
            Check.outOfBounds("key " + none, x, () -> x.value(1, none));
            Check.outOfBounds("key " + none + " of one that does not live", x,
                    () -> x.value(0, none));
            Check.outOfBounds("both " + none, x, () -> x.value(none, none));
        }
    }

    // Promise 15. "IllegalArgumentException: another what."; no such BACKUP
    private static void backupRefuses() {
        OneTrip x = inUse();
        for (int none : Check.noneOf(2)) {
            Check.outOfBounds("backup " + none, x, () -> x.backup(none, 1));
            Check.outOfBounds("what 2 of backup " + none, x, () -> x.backup(none, 2));
        }
        for (int wrong : WRONG) {
            Check.badArgument("what " + wrong, x, () -> x.backup(1, wrong));
        }
        Check.badArgument("what 2", x, () -> x.backup(0, 2));
    }

    // Promise 16. "3 their KEYS, as bits"
    private static void witnessTellsItsKeysAsBits() {
        for (int key = 0; key < 16; key++) {
            OneTrip x = new OneTrip(1, 4, 4, 10);
            x.ask(0, PUT, key, 5);
            Check.witness("none", x, 0, 0, 0, 0, 0);
            x.deliver(1);
            Check.witness("key " + key, x, 0, 0, 0, 1, 1 << key);
        }
        OneTrip x = new OneTrip(1, 4, 4, 10);
        for (int key = 0; key < 16; key++) {
            x.ask(0, PUT, key, 5);
            x.deliver(1);
            Check.deliver(x, EXEC, 0);
            Check.loseEach(x, SYNC);
            Check.deliverAll(x);
        }
        Check.witness("all keys", x, 0, 0, 0, 16, 0xffff);
    }

    // Promise 16. "IllegalArgumentException: another what."; no such WITNESS
    private static void witnessRefuses() {
        OneTrip x = inUse();
        for (int none : Check.noneOf(2)) {
            Check.outOfBounds("witness " + none, x, () -> x.witness(none, 3));
            Check.outOfBounds("what 4 of witness " + none, x, () -> x.witness(none, 4));
        }
        for (int wrong : WRONG) {
            Check.badArgument("what " + wrong, x, () -> x.witness(1, wrong));
        }
        Check.badArgument("what 4", x, () -> x.witness(0, 4));
    }

    // Promise 17. "As told: 0, or 1."
    private static void auditAnswers0AndChangesNothing() {
        OneTrip x = new OneTrip(1, 1, 1, 1);
        Check.changesNothing("of a new object", x, 0, x::audit);
        OneTrip y = inUse();
        Check.changesNothing("of one in use", y, 0, y::audit);
        y.crash(1);
        Check.changesNothing("of one whose latest MASTER does not live", y, 0, y::audit);
    }

    // Promise 18. "0 letters on their way, 1 EPOCHS, 2 OPERATIONS asked for, 3 of them DONE, 4
    // letters that were lost because the row was full, 5 F, 6 SETS, 7 WAYS, 8 BATCH"
    private static void countOfEach() {
        OneTrip x = new OneTrip(1, 2, 3, 4);
        counts("new", x, 0, 1, 0, 0, 0, 1, 2, 3, 4);
        x.ask(0, PUT, 1, 5);
        counts("asked", x, 2, 1, 1, 0, 0, 1, 2, 3, 4);
        x.ask(0, PUT, 1, 5);
        counts("NONE is not asked for", x, 2, 1, 1, 0, 0, 1, 2, 3, 4);
        x.retry(0);
        counts("nor is one tried again", x, 4, 1, 1, 0, 0, 1, 2, 3, 4);
        Check.deliverAll(x);
        counts("done", x, 0, 1, 1, 1, 0, 1, 2, 3, 4);
        x.ask(1, GET, 1, 5);
        x.lose(0);
        counts("one lost by lose()", x, 0, 1, 2, 1, 0, 1, 2, 3, 4);
        x.decide(0, 0);
        counts("decided", x, 0, 2, 2, 1, 0, 1, 2, 3, 4);
        for (int i = 0; i < 251; i++) {
            x.sync(0);
        }
        counts("full", x, 250, 2, 2, 1, 1, 1, 2, 3, 4);
        x.learn(1);
        counts("its EXEC was too many", x, 250, 2, 2, 1, 2, 1, 2, 3, 4);
        Check.loseAll(x);
        x.retry(1);
        Check.deliverAll(x);
        counts("a GET is DONE too", x, 0, 2, 2, 2, 2, 1, 2, 3, 4);
    }

    private static void counts(String what, OneTrip x, int... due) {
        for (int i = 0; i < due.length; i++) {
            Check.same(what + ", count(" + i + ")", x.count(i), due[i]);
        }
    }

    // Promise 18. "NONE for another what."
    private static void countOfAnotherWhat() {
        OneTrip x = inUse();
        for (int none : Check.noneOf(9)) {
            Check.changesNothing("what " + none, x, OneTrip.NONE, () -> x.count(none));
        }
    }

    // "A call that is refused changes nothing", nor does it show in any later call: of two objects
    // with the same calls one is also asked for what is refused.
    private static void refusedCallsLeaveNoTrace() {
        for (int run = 0; run < 40; run++) {
            int f = 1 + run % 3;
            OneTrip plain = new OneTrip(f, 1 + run % 2, 2, 1 + run % 4);
            OneTrip pestered = new OneTrip(f, 1 + run % 2, 2, 1 + run % 4);
            long seed = run;
            for (int call = 0; call < 512; call++) {
                seed = seed * 6364136223846793005L + 1442695040888963407L;
                pester(pestered);
                int drawn = (int) (seed >>> 33);
                Check.same("run " + run + ", call " + call, act(pestered, drawn),
                        act(plain, drawn));
                Check.same("run " + run + ", behind call " + call, Check.shows(pestered),
                        Check.shows(plain));
            }
        }
    }

    /** One call that is right, chosen by a number that is not below 0. */
    private static int act(OneTrip x, int drawn) {
        int a = drawn / 64 % 4;
        int b = drawn / 256 % x.count(5);
        int n = x.count(0);
        int kind = drawn % 64;
        if (kind < 12) {
            return x.ask(a, drawn / 256 % 3, drawn / 1024 % 5, drawn / 8192 % 9);
        }
        if (kind < 55 && n > 0) {
            int k = kind < 35 ? 0 : drawn / 64 % n;
            return kind == 54 ? x.lose(k) : kind == 53 ? x.twice(k) : x.deliver(k);
        }
        if (kind < 58) {
            return Check.asBit(x.sync(drawn / 64 % x.count(1)));
        }
        if (kind < 61) {
            return x.learn(a);
        }
        if (kind == 61) {
            return Check.asBit(x.retry(a));
        }
        if (drawn / 64 % 8 > 0 || x.count(1) >= 12) {
            return x.audit();
        }
        return kind == 62 ? x.decide(b, b) : Check.asBit(x.crash(drawn / 512 % x.count(1)));
    }

    /** Each kind of call, refused; and those that answer NONE or false. */
    private static void pester(OneTrip x) {
        int n = x.count(0);
        int epochs = x.count(1);
        int f = x.count(5);
        refuse(() -> x.ask(4, PUT, 1, 1), Check.INDEX);
        refuse(() -> x.ask(0, PUT, 16, 1), Check.INDEX);
        refuse(() -> x.ask(1, 3, 1, 1), Check.ARGUMENT);
        refuse(() -> Check.asBit(x.retry(-1)), Check.INDEX);
        refuse(() -> x.learn(4), Check.INDEX);
        refuse(() -> x.deliver(n), Check.INDEX);
        refuse(() -> x.lose(n), Check.INDEX);
        refuse(() -> x.twice(n), Check.INDEX);
        refuse(() -> Check.asBit(x.sync(epochs)), Check.INDEX);
        refuse(() -> Check.asBit(x.crash(epochs)), Check.INDEX);
        refuse(() -> x.decide(f, 0), Check.INDEX);
        refuse(() -> x.decide(0, f), Check.INDEX);
        refuse(() -> x.letter(n, 0), Check.INDEX);
        refuse(() -> x.client(0, 7), Check.ARGUMENT);
        refuse(() -> x.master(0, 5), Check.ARGUMENT);
        refuse(() -> x.value(epochs, 0), Check.INDEX);
        refuse(() -> x.backup(0, 2), Check.ARGUMENT);
        refuse(() -> x.witness(0, 4), Check.ARGUMENT);
        refuse(() -> x.count(9), OneTrip.NONE);
        if (epochs == 12) {
            refuse(() -> x.decide(0, 0), Check.UNSUPPORTED);
        }
        for (int c = 0; c < 4; c++) {
            int client = c;
            if (x.client(c, 1) == 0) {
                refuse(() -> x.ask(client, PUT, 1, 1), OneTrip.NONE);
            } else {
                refuse(() -> Check.asBit(x.retry(client)), 0);
            }
        }
        for (int e = 0; e < epochs; e++) {
            int epoch = e;
            if (x.master(e, 0) == 0) {
                refuse(() -> Check.asBit(x.sync(epoch)), 0);
                refuse(() -> Check.asBit(x.crash(epoch)), 0);
            }
        }
    }

    private static void refuse(Check.Call call, int due) {
        Check.same("refused", Check.outcome(call), due);
    }
}
