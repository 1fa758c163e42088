/**
 * 'Terms' 2 from RECORD to SYNCNOW, each sentence with an edge in it: what witnesses do, what
 * clients do with the replies, and what a master does when a client asks for a SYNC.
 */
public final class EdgesOfWitnessesTest {
    private static final int PUT = Check.PUT;
    private static final int ADD = Check.ADD;
    private static final int GET = Check.GET;
    private static final int EXEC = Check.EXEC;
    private static final int RECORD = Check.RECORD;
    private static final int ANSWER = Check.ANSWER;
    private static final int ACCEPT = Check.ACCEPT;
    private static final int REJECT = Check.REJECT;
    private static final int SYNCNOW = Check.SYNCNOW;
    private static final int SYNC = Check.SYNC;
    private static final int ACK = Check.ACK;
    private static final int GC = Check.GC;
    private static final int RESET = Check.RESET;

    public static void main(String[] args) {
        recordOfALesserEpoch();
        recordOfAGreaterEpoch();
        recordAtAFrozenWitness();
        recordOfWhatIsHeldAlready();
        recordOfWhatIsHeldInAFullSet();
        recordOfAKeyThatIsHeld();
        recordInAFullSet();
        recordBehindAGc();
        rejectHoldsNothing();
        gcOfAnotherEpoch();
        gcAtAFrozenWitness();
        gcDropsTheFirstSoManyOnly();
        gcAtAFullWitness();
        gcIsOfWhatWasSyncedWhenItWasSent();
        resetOfAGreaterEpoch();
        resetOfItsOwnEpochWhenFrozen();
        resetOfAFullWitness();
        resetOfItsOwnEpochWhenNotFrozen();
        resetOfALesserEpoch();
        repliesOfAnotherEpoch();
        repliesOfAnotherOperation();
        repliesToADoneOne();
        answerThatIsSafe();
        answerThatIsNotSafe();
        acceptsOfAllWitnesses();
        acceptOfOneWitnessTwice();
        acceptsOfAllWithoutAnAnswer();
        rejectWithAnAnswerOrWithout();
        rejectEachTime();
        rejectBesideAnAccept();
        syncNowOfWhatIsNotInTheLog();
        syncNowOfASyncedOne();
        syncNowOfOneThatIsNotSynced();
        syncNowAtACrashedMaster();
        Check.close("EdgesOfWitnessesTest");
    }

    private static OneTrip roomy(int f) {
        return new OneTrip(f, 4, 4, 10);
    }

    /** The client asks; the witness alone reads its RECORD, and its reply is the last letter. */
    private static int reply(OneTrip x, int client, int what, int key, int witness) {
        Check.loseAll(x);
        x.ask(client, what, key, 1);
        Check.deliver(x, RECORD, witness);
        return x.letter(x.count(0) - 1, 0);
    }

    /** The epoch goes on to the next, which is settled; the clients from 0 on learn it. */
    private static void nextEpoch(OneTrip x, int backup, int witness, int clients) {
        int epoch = x.decide(backup, witness);
        Check.loseAll(x);
        x.sync(epoch);
        Check.deliverAll(x);
        for (int c = 0; c < clients; c++) {
            x.learn(c);
        }
        Check.deliverAll(x);
    }

    // "ACCEPT, if it has that EPOCH": its own is greater
    private static void recordOfALesserEpoch() {
        OneTrip x = roomy(2);
        nextEpoch(x, 0, 0, 1);
        Check.witness("it has epoch 1, not FROZEN", x, 1, 1, 0, 0, 0);
        Check.same("RECORD of epoch 0", reply(x, 1, PUT, 1, 1), REJECT);
        Check.lettersFrom(x.count(0) - 1, "it tells the RECORD's epoch", x, REJECT, 0, 1, 1);
        Check.same("RECORD of epoch 1", reply(x, 0, PUT, 1, 1), ACCEPT);
        Check.lettersFrom(x.count(0) - 1, "so does ACCEPT", x, ACCEPT, 1, 0, 1);
    }

    // "ACCEPT, if it has that EPOCH": its own is lesser
    private static void recordOfAGreaterEpoch() {
        OneTrip x = roomy(2);
        x.decide(0, 0);
        x.learn(0);
        Check.same("RECORD of epoch 1 at epoch 0", reply(x, 0, PUT, 1, 1), REJECT);
        Check.witness("it has its epoch still", x, 1, 0, 0, 0, 0);
        Check.same("RECORD of epoch 0", reply(x, 1, PUT, 1, 1), ACCEPT);
    }

    // "and is not FROZEN"
    private static void recordAtAFrozenWitness() {
        OneTrip x = roomy(1);
        x.decide(0, 0);
        x.learn(0);
        Check.same("of its epoch, but FROZEN", reply(x, 0, PUT, 1, 0), REJECT);
        Check.witness("it holds none", x, 0, 1, 1, 0, 0);
        Check.loseAll(x);
        x.sync(1);
        Check.deliverAll(x);
        Check.witness("RESET", x, 0, 1, 0, 0, 0);
        x.retry(0);
        Check.deliver(x, RECORD, 0);
        Check.same("FROZEN no more", Check.many(x, ACCEPT), 1);
        OneTrip y = roomy(1);
        Check.same("held by epoch 0", reply(y, 0, PUT, 1, 0), ACCEPT);
        Check.loseAll(y);
        y.decide(0, 0);
        y.learn(0);
        Check.deliver(y, RECORD, 0);
        Check.same("one that it holds, when FROZEN", Check.many(y, REJECT), 1);
    }

    // "and holds that UPDATE already"
    private static void recordOfWhatIsHeldAlready() {
        OneTrip x = roomy(1);
        Check.same("the first time", reply(x, 0, PUT, 1, 0), ACCEPT);
        x.retry(0);
        Check.deliver(x, RECORD, 0);
        Check.same("again", Check.many(x, ACCEPT), 2);
        Check.witness("held once", x, 0, 0, 0, 1, 2);
    }

    // "holds that UPDATE already", where there is no free place
    private static void recordOfWhatIsHeldInAFullSet() {
        OneTrip x = new OneTrip(1, 1, 2, 10);
        Check.same("the first place", reply(x, 0, PUT, 1, 0), ACCEPT);
        Check.same("the second place", reply(x, 1, PUT, 2, 0), ACCEPT);
        for (int c = 0; c < 2; c++) {
            Check.loseAll(x);
            x.retry(c);
            Check.deliver(x, RECORD, 0);
            Check.same("again, the set is full", Check.many(x, ACCEPT), 1);
        }
        Check.witness("two are held", x, 0, 0, 0, 2, 6);
    }

    // "or holds none of that KEY"
    private static void recordOfAKeyThatIsHeld() {
        OneTrip x = roomy(1);
        Check.same("key 15", reply(x, 0, PUT, 15, 0), ACCEPT);
        Check.same("key 15 of another client, though three places are free",
                reply(x, 1, ADD, 15, 0), REJECT);
        Check.same("key 11 of that set", reply(x, 2, ADD, 11, 0), ACCEPT);
        Check.witness("keys 15 and 11", x, 0, 0, 0, 2, 1 << 15 | 1 << 11);
    }

    // "and has a free place in the KEY's set"
    private static void recordInAFullSet() {
        OneTrip x = new OneTrip(1, 2, 1, 10);
        Check.same("key 0 in set 0", reply(x, 0, PUT, 0, 0), ACCEPT);
        Check.same("key 14 in set 0, which is full", reply(x, 1, PUT, 14, 0), REJECT);
        Check.same("key 15 in set 1, which is not", reply(x, 2, PUT, 15, 0), ACCEPT);
        Check.same("key 1 in set 1, which is now", reply(x, 3, PUT, 1, 0), REJECT);
        Check.witness("two", x, 0, 0, 0, 2, 1 << 15 | 1);
    }

    // "(it holds it then)": a place that GC has made free is taken again
    private static void recordBehindAGc() {
        OneTrip x = new OneTrip(1, 1, 1, 10);
        x.ask(0, PUT, 1, 5);
        x.twice(1);
        Check.deliver(x, RECORD, 0);
        Check.deliver(x, EXEC, 0);
        x.sync(0);
        Check.syncAndAck(x, 0);
        Check.deliver(x, GC, 0);
        Check.witness("free", x, 0, 0, 0, 0, 0);
        Check.deliver(x, RECORD, 0);
        Check.witness("a late RECORD takes it once more", x, 0, 0, 0, 1, 2);
        Check.same("ACCEPT", Check.many(x, ACCEPT), 2);
    }

    // "else REJECT": it holds what it held
    private static void rejectHoldsNothing() {
        OneTrip x = new OneTrip(1, 1, 1, 10);
        Check.same("held", reply(x, 0, PUT, 1, 0), ACCEPT);
        Check.same("of that key", reply(x, 1, PUT, 1, 0), REJECT);
        Check.same("of another key", reply(x, 2, PUT, 2, 0), REJECT);
        Check.witness("the first one", x, 0, 0, 0, 1, 2);
        Check.loseAll(x);
        x.decide(0, 0);
        Check.master("it alone rises", x, 1, 1, 1, 0, 0, 1);
        Check.same("no other one", x.value(1, 2), 0);
    }

    /** Client 0 has key 1 synced in epoch 0, and a GC to each of two witnesses is on its way. */
    private static OneTrip withGc() {
        OneTrip x = roomy(2);
        Check.same("done", Check.told(x, 0, PUT, 1, 5), 0);
        x.sync(0);
        Check.syncAndAck(x, 0);
        Check.syncAndAck(x, 1);
        Check.letters("GC to each", x, GC, 0, 0, 1, GC, 0, 1, 1);
        return x;
    }

    // "GC ... at a WITNESS of that EPOCH"
    private static void gcOfAnotherEpoch() {
        OneTrip x = withGc();
        x.decide(1, 1);
        Check.deliver(x, GC, 1);
        Check.witness("of a lesser epoch: it holds all", x, 1, 1, 1, 1, 2);
        Check.deliver(x, GC, 0);
        Check.witness("the other one has that epoch", x, 0, 0, 0, 0, 0);
        OneTrip y = withGc();
        Check.loseAll(y);
        y.decide(1, 1);
        y.sync(1);
        Check.syncAndAck(y, 0);
        Check.syncAndAck(y, 1);
        Check.deliver(y, GC, 0);
        Check.witness("of a greater epoch: it holds all", y, 0, 0, 0, 1, 2);
    }

    // "GC ... at a WITNESS of that EPOCH": FROZEN or not
    private static void gcAtAFrozenWitness() {
        OneTrip x = withGc();
        Check.loseAll(x);
        x.decide(1, 1);
        x.sync(1);
        Check.syncAndAck(x, 0);
        Check.syncAndAck(x, 1);
        Check.deliver(x, GC, 1);
        Check.witness("it holds none, and is FROZEN", x, 1, 1, 1, 0, 0);
    }

    // "it holds none any more that is among the first so many of that MASTER's LOG"
    private static void gcDropsTheFirstSoManyOnly() {
        OneTrip x = roomy(1);
        for (int c = 0; c < 3; c++) {
            x.ask(c, PUT, c, 5);
            Check.deliver(x, RECORD, 0);
        }
        Check.deliver(x, EXEC, 2);
        Check.deliver(x, EXEC, 0);
        x.sync(0);
        Check.deliver(x, EXEC, 1);
        x.sync(0);
        Check.syncAndAck(x, 0);
        Check.same("GC of two", x.letter(Check.find(x, GC, 0), 3), 2);
        x.twice(Check.find(x, GC, 0));
        Check.deliver(x, GC, 0);
        Check.witness("the first two of the LOG are keys 2 and 0", x, 0, 0, 0, 1, 2);
        Check.deliver(x, GC, 0);
        Check.witness("the same once more", x, 0, 0, 0, 1, 2);
        Check.syncAndAck(x, 0);
        Check.deliver(x, GC, 0);
        Check.witness("all three", x, 0, 0, 0, 0, 0);
    }

    // "it holds none any more": of each place
    private static void gcAtAFullWitness() {
        for (int sets = 1; sets <= 4; sets++) {
            for (int ways = 1; ways <= 4; ways++) {
                OneTrip x = full(sets, ways);
                x.sync(0);
                Check.deliverAll(x);
                Check.witness("none of them", x, 0, 0, 0, 0, 0);
            }
        }
    }

    // "GC (with EPOCH and SYNCED as they are when it is sent)"
    private static void gcIsOfWhatWasSyncedWhenItWasSent() {
        OneTrip x = roomy(1);
        for (int c = 0; c < 2; c++) {
            x.ask(c, PUT, c, 5);
            Check.deliver(x, RECORD, 0);
            Check.deliver(x, EXEC, c);
            x.sync(0);
            Check.syncAndAck(x, 0);
        }
        Check.same("both are SYNCED", x.master(0, 2), 2);
        x.crash(0);
        Check.same("the first GC tells one", x.letter(Check.find(x, GC, 0), 3), 1);
        Check.deliver(x, GC, 0);
        Check.witness("key 1 stays", x, 0, 0, 0, 1, 2);
        Check.deliver(x, GC, 0);
        Check.witness("none, also behind a crash", x, 0, 0, 0, 0, 0);
    }

    // "RESET (EPOCH) at a WITNESS of a lesser EPOCH"
    private static void resetOfAGreaterEpoch() {
        OneTrip x = roomy(2);
        Check.same("held", reply(x, 0, PUT, 1, 1), ACCEPT);
        Check.loseAll(x);
        x.decide(0, 0);
        x.decide(0, 0);
        x.sync(2);
        Check.syncAndAck(x, 0);
        Check.syncAndAck(x, 1);
        Check.witness("epoch 0 as yet", x, 1, 0, 0, 1, 2);
        Check.deliver(x, RESET, 1);
        Check.witness("epoch 2, no RECORDS, not FROZEN", x, 1, 2, 0, 0, 0);
        x.decide(1, 1);
        Check.witness("FROZEN in epoch 3", x, 1, 3, 1, 0, 0);
        x.decide(1, 0);
        x.sync(4);
        Check.lose(x, RESET, 0);
        Check.syncAndAck(x, 0);
        Check.syncAndAck(x, 1);
        Check.deliver(x, RESET, 1);
        Check.witness("FROZEN, of a lesser epoch", x, 1, 4, 0, 0, 0);
    }

    // "or of this one and FROZEN"
    private static void resetOfItsOwnEpochWhenFrozen() {
        OneTrip x = roomy(1);
        Check.same("held", reply(x, 0, PUT, 1, 0), ACCEPT);
        Check.loseAll(x);
        x.decide(0, 0);
        x.sync(1);
        Check.syncAndAck(x, 0);
        Check.witness("FROZEN with its RECORD", x, 0, 1, 1, 1, 2);
        Check.deliver(x, RESET, 0);
        Check.witness("no RECORDS, not FROZEN", x, 0, 1, 0, 0, 0);
    }

    private static OneTrip full(int sets, int ways) {
        OneTrip x = new OneTrip(1, sets, ways, 10);
        takeEachPlace(x, 0, sets * ways);
        return x;
    }

    /** By updates that are done and not SYNCED. */
    private static void takeEachPlace(OneTrip x, int epoch, int places) {
        for (int key = 0; key < places; key++) {
            x.ask(0, PUT, key, 1);
            Check.deliver(x, EXEC, 0);
            Check.loseEach(x, SYNC);
            Check.deliverAll(x);
            Check.same("done by ACCEPTS", x.client(0, 4), 1);
        }
        Check.witness("full", x, 0, epoch, 0, places, (1 << places) - 1);
    }

    // "no RECORDS": of each place, which is free again
    private static void resetOfAFullWitness() {
        for (int sets = 1; sets <= 4; sets++) {
            for (int ways = 1; ways <= 4; ways++) {
                OneTrip x = full(sets, ways);
                x.decide(0, 0);
                x.sync(1);
                Check.syncAndAck(x, 0);
                Check.loseEach(x, GC);
                Check.witness("FROZEN with all", x, 0, 1, 1, sets * ways,
                        (1 << sets * ways) - 1);
                Check.deliver(x, RESET, 0);
                Check.witness("none of them", x, 0, 1, 0, 0, 0);
                x.learn(0);
                takeEachPlace(x, 1, sets * ways);
            }
        }
    }

    // else nothing: of this one and not FROZEN
    private static void resetOfItsOwnEpochWhenNotFrozen() {
        OneTrip x = roomy(1);
        nextEpoch(x, 0, 0, 1);
        Check.same("held in epoch 1", reply(x, 0, PUT, 1, 0), ACCEPT);
        x.sync(1);
        Check.deliver(x, RESET, 0);
        Check.witness("it keeps it", x, 0, 1, 0, 1, 2);
    }

    // else nothing: of a greater one
    private static void resetOfALesserEpoch() {
        OneTrip x = roomy(2);
        nextEpoch(x, 0, 0, 1);
        Check.same("held in epoch 1", reply(x, 0, PUT, 1, 1), ACCEPT);
        Check.loseAll(x);
        x.decide(1, 1);
        x.sync(1);
        Check.deliver(x, RESET, 1);
        Check.witness("FROZEN, of a greater epoch", x, 1, 2, 1, 1, 2);
        Check.loseAll(x);
        x.sync(2);
        Check.deliverAll(x);
        x.sync(1);
        x.learn(1);
        Check.same("held in epoch 2", reply(x, 1, PUT, 2, 1), ACCEPT);
        x.sync(1);
        Check.deliver(x, RESET, 1);
        Check.witness("not FROZEN, of a greater epoch", x, 1, 2, 0, 1, 4);
    }

    // "ANSWER, ACCEPT, REJECT ... at the CLIENT: nothing, if that is not the EPOCH that it knows"
    private static void repliesOfAnotherEpoch() {
        OneTrip x = roomy(1);
        x.ask(0, PUT, 1, 5);
        x.ask(1, PUT, 1, 6);
        Check.deliver(x, EXEC, 0);
        Check.deliver(x, RECORD, 0);
        Check.deliver(x, RECORD, 0);
        x.decide(0, 0);
        Check.loseEach(x, EXEC);
        Check.letters("of epoch 0", x, ANSWER, 0, 0, 1, ACCEPT, 0, 0, 1, REJECT, 0, 1, 1);
        x.learn(0);
        x.learn(1);
        for (int k = 0; k < 3; k++) {
            int before = x.count(0);
            Check.same("nothing is sent", x.deliver(0), before - 1);
        }
        Check.client("no answer, no accept", x, 0, 1, 0, 0, 1, 0, 0, 0);
        Check.client("nothing", x, 1, 1, 0, 0, 1, 0, 0, 0);
        OneTrip y = roomy(1);
        y.ask(0, PUT, 1, 5);
        y.decide(0, 0);
        Check.deliver(y, EXEC, 0);
        Check.deliver(y, ANSWER, 0);
        Check.client("the EPOCH that it knows, though it is not the latest", y, 0,
                1, 0, 0, 0, 0, 1, 0);
    }

    // "or not the OPERATION that it has asked for"
    private static void repliesOfAnotherOperation() {
        OneTrip x = new OneTrip(2, 1, 1, 10);
        x.ask(0, PUT, 1, 5);
        for (int i = 0; i < 3; i++) {
            x.twice(i);
        }
        Check.deliver(x, EXEC, 0);
        Check.deliver(x, EXEC, 0);
        Check.deliver(x, RECORD, 0);
        Check.deliver(x, RECORD, 1);
        Check.deliver(x, RECORD, 0);
        Check.deliver(x, RECORD, 1);
        Check.letters("all is there twice", x, ANSWER, 0, 0, 1, ANSWER, 0, 0, 1, ACCEPT, 0, 0, 1,
                ACCEPT, 0, 0, 1, ACCEPT, 0, 0, 1, ACCEPT, 0, 0, 1);
        x.deliver(0);
        x.deliver(1);
        x.deliver(1);
        Check.client("done", x, 0, 1, 1, 0, 0, 2, 0, 1);
        x.ask(0, PUT, 1, 6);
        Check.deliver(x, RECORD, 0);
        Check.deliver(x, REJECT, 0);
        Check.same("a REJECT of the second one", Check.many(x, SYNCNOW), 1);
        Check.deliver(x, ANSWER, 0);
        Check.deliver(x, ACCEPT, 0);
        Check.deliver(x, ACCEPT, 0);
        Check.client("those of the first one are nothing", x, 0, 2, 0, 0, 0, 0, 0, 1);
    }

    // "and that is not done"
    private static void repliesToADoneOne() {
        OneTrip x = new OneTrip(2, 1, 1, 1);
        x.ask(0, PUT, 1, 5);
        x.twice(1);
        Check.deliver(x, EXEC, 0);
        Check.lose(x, ANSWER, 0);
        Check.deliver(x, RECORD, 0);
        Check.syncAndAck(x, 0);
        Check.syncAndAck(x, 1);
        x.retry(0);
        Check.deliver(x, EXEC, 0);
        x.twice(Check.find(x, ANSWER, 0));
        Check.deliver(x, ANSWER, 0);
        Check.client("done by the SAFE one", x, 0, 1, 1, 0, 0, 0, 0, 0);
        x.ask(1, PUT, 2, 5);
        Check.deliver(x, RECORD, 1);
        Check.deliver(x, RECORD, 1);
        Check.same("an ACCEPT and an ANSWER to 0", Check.find(x, ACCEPT, 0) >= 0
                && Check.find(x, ANSWER, 0) >= 0, true);
        Check.deliver(x, ACCEPT, 0);
        Check.deliver(x, ANSWER, 0);
        Check.client("as before", x, 0, 1, 1, 0, 0, 0, 0, 0);
        Check.same("done once", x.count(3), 1);
        OneTrip y = new OneTrip(1, 1, 1, 1);
        Check.same("held", reply(y, 1, PUT, 2, 0), ACCEPT);
        Check.same("rejected", reply(y, 0, PUT, 1, 0), REJECT);
        Check.deliver(y, EXEC, 0);
        Check.syncAndAck(y, 0);
        y.retry(0);
        y.deliver(Check.find(y, EXEC, 0));
        Check.deliver(y, ANSWER, 0);
        Check.deliver(y, ANSWER, 0);
        Check.same("done by the SAFE one", y.client(0, 1), 1);
        Check.deliver(y, REJECT, 0);
        Check.same("no SYNCNOW", Check.many(y, SYNCNOW), 0);
    }

    // "SAFE: it is DONE."
    private static void answerThatIsSafe() {
        OneTrip x = roomy(3);
        x.ask(0, ADD, 1, 5);
        Check.deliver(x, EXEC, 0);
        Check.loseAll(x);
        x.sync(0);
        for (int b = 0; b < 3; b++) {
            Check.syncAndAck(x, b);
        }
        x.retry(0);
        Check.deliver(x, EXEC, 0);
        Check.deliver(x, ANSWER, 0);
        Check.client("without any accept", x, 0, 1, 1, 5, 0, 0, 0, 0);
        x.ask(1, GET, 1, 0);
        Check.deliverAll(x);
        Check.client("a GET", x, 1, 1, 1, 5, 0, 0, 0, 0);
    }

    // "ANSWER: it is known"
    private static void answerThatIsNotSafe() {
        OneTrip x = roomy(3);
        x.ask(0, ADD, 1, 5);
        x.twice(0);
        Check.deliver(x, EXEC, 0);
        Check.deliver(x, EXEC, 0);
        Check.deliver(x, ANSWER, 0);
        Check.client("known, not done, not told", x, 0, 1, 0, 0, 0, 0, 1, 0);
        Check.deliver(x, ANSWER, 0);
        Check.client("once more", x, 0, 1, 0, 0, 0, 0, 1, 0);
        Check.same("none is done", x.count(3), 0);
    }

    // "With an ANSWER of an UPDATE and ACCEPTS of all WITNESSES it is DONE."
    private static void acceptsOfAllWitnesses() {
        for (int f = 1; f <= 3; f++) {
            for (int late = 0; late <= f; late++) {
                OneTrip x = roomy(f);
                x.ask(0, ADD, 1, 5);
                for (int w = 0; w < f; w++) {
                    if (w == late) {
                        Check.deliver(x, EXEC, 0);
                        Check.deliver(x, ANSWER, 0);
                    }
                    Check.same("not with " + w + " of " + f, x.client(0, 1), 0);
                    Check.deliver(x, RECORD, f - 1 - w);
                    Check.deliver(x, ACCEPT, 0);
                    Check.same("so many", x.client(0, 4), w + 1);
                }
                if (late == f) {
                    Check.same("not without an ANSWER", x.client(0, 1), 0);
                    Check.deliver(x, EXEC, 0);
                    Check.deliver(x, ANSWER, 0);
                }
                Check.client("done by ACCEPTS", x, 0, 1, 1, 5, 0, f, 0, 1);
                Check.same("nothing is SYNCED", x.master(0, 2), 0);
            }
        }
    }

    // "ACCEPT: that WITNESS has accepted."
    private static void acceptOfOneWitnessTwice() {
        OneTrip x = roomy(2);
        x.ask(0, PUT, 1, 5);
        Check.deliver(x, EXEC, 0);
        Check.deliver(x, ANSWER, 0);
        Check.deliver(x, RECORD, 1);
        x.twice(Check.find(x, ACCEPT, 0));
        Check.deliver(x, ACCEPT, 0);
        Check.deliver(x, ACCEPT, 0);
        Check.client("one of two", x, 0, 1, 0, 0, 0, 1, 1, 0);
    }

    // "With an ANSWER"
    private static void acceptsOfAllWithoutAnAnswer() {
        OneTrip x = roomy(2);
        x.ask(0, PUT, 1, 5);
        Check.lose(x, EXEC, 0);
        Check.deliverAll(x);
        Check.client("accepts alone", x, 0, 1, 0, 0, 0, 2, 0, 0);
        Check.same("none is done", x.count(3), 0);
    }

    // "REJECT: with an ANSWER or without: SYNCNOW to the MASTER of the EPOCH"
    private static void rejectWithAnAnswerOrWithout() {
        OneTrip x = new OneTrip(1, 1, 1, 10);
        Check.same("held", reply(x, 1, PUT, 1, 0), ACCEPT);
        Check.same("rejected", reply(x, 0, PUT, 1, 0), REJECT);
        Check.deliver(x, REJECT, 0);
        Check.letters("without", x, EXEC, 0, 0, 1, SYNCNOW, 0, 0, 1);
        Check.loseAll(x);
        x.retry(0);
        Check.deliver(x, EXEC, 0);
        Check.deliver(x, ANSWER, 0);
        Check.same("an answer is known", x.client(0, 5), 1);
        Check.deliver(x, RECORD, 0);
        Check.deliver(x, REJECT, 0);
        Check.letters("with", x, SYNCNOW, 0, 0, 1);
        Check.same("it is known still", x.client(0, 5), 1);
    }

    // "(each time)"
    private static void rejectEachTime() {
        OneTrip x = new OneTrip(3, 1, 1, 10);
        x.ask(1, PUT, 1, 1);
        for (int w = 0; w < 3; w++) {
            Check.deliver(x, RECORD, w);
        }
        Check.loseAll(x);
        x.ask(0, PUT, 1, 1);
        for (int w = 0; w < 3; w++) {
            Check.deliver(x, RECORD, w);
        }
        x.twice(Check.find(x, REJECT, 0));
        for (int i = 1; i <= 4; i++) {
            Check.deliver(x, REJECT, 0);
            Check.same("a SYNCNOW each time", Check.many(x, SYNCNOW), i);
        }
    }

    // one of two accepts, the other rejects: not all WITNESSES
    private static void rejectBesideAnAccept() {
        OneTrip x = new OneTrip(2, 1, 1, 10);
        x.ask(1, PUT, 1, 1);
        Check.deliver(x, RECORD, 0);
        Check.loseAll(x);
        x.ask(0, PUT, 2, 1);
        Check.deliver(x, EXEC, 0);
        Check.deliver(x, ANSWER, 0);
        Check.deliver(x, RECORD, 1);
        Check.deliver(x, ACCEPT, 0);
        Check.deliver(x, RECORD, 0);
        Check.deliver(x, REJECT, 0);
        Check.client("not done, its accept stays", x, 0, 1, 0, 0, 0, 1, 1, 0);
        Check.deliverAll(x);
        Check.client("by the SYNC", x, 0, 1, 1, 0, 0, 1, 0, 0);
    }

    // "SYNCNOW ... at a MASTER that lives: ... If it has not: nothing."
    private static void syncNowOfWhatIsNotInTheLog() {
        OneTrip x = new OneTrip(1, 1, 1, 10);
        Check.same("held", reply(x, 1, PUT, 1, 0), ACCEPT);
        Check.same("rejected", reply(x, 0, PUT, 1, 0), REJECT);
        Check.deliver(x, REJECT, 0);
        x.twice(Check.find(x, SYNCNOW, 0));
        Check.deliver(x, SYNCNOW, 0);
        Check.letters("nothing is sent", x, EXEC, 0, 0, 1, SYNCNOW, 0, 0, 1);
        x.deliver(0);
        Check.loseEach(x, SYNCNOW);
        Check.lose(x, ANSWER, 0);
        x.sync(0);
        Check.syncAndAck(x, 0);
        Check.letters("nor noted: no ANSWER of it", x, GC, 0, 0, 1);
    }

    // "among the first SYNCED ones: ANSWER, SAFE"
    private static void syncNowOfASyncedOne() {
        OneTrip x = rejectedAndWritten();
        x.twice(Check.find(x, SYNCNOW, 0));
        Check.lose(x, SYNCNOW, 0);
        x.sync(0);
        Check.syncAndAck(x, 0);
        Check.lose(x, GC, 0);
        Check.letters("SYNCED without a SYNCNOW", x, SYNCNOW, 0, 0, 1);
        x.deliver(0);
        Check.letters("ANSWER, no SYNC", x, ANSWER, 0, 0, 1);
        x.deliver(0);
        Check.client("SAFE", x, 0, 1, 1, 0, 0, 0, 0, 0);
    }

    // "else it is noted that SYNCNOW came for it, and SYNC to each BACKUP"
    private static void syncNowOfOneThatIsNotSynced() {
        OneTrip x = rejectedAndWritten();
        x.ask(2, PUT, 9, 1);
        Check.deliver(x, EXEC, 2);
        Check.keepOnly(x, SYNCNOW);
        x.deliver(0);
        Check.letters("SYNC of all, no ANSWER", x, SYNC, 0, 0, 2);
        Check.loseAll(x);
        x.sync(0);
        Check.syncAndAck(x, 0);
        Check.letters("it was noted for that one alone", x, ANSWER, 0, 0, 1, GC, 0, 0, 2);
        x.deliver(0);
        Check.client("SAFE", x, 0, 1, 1, 0, 0, 0, 0, 0);
        OneTrip y = new OneTrip(3, 1, 1, 10);
        y.ask(1, PUT, 1, 1);
        Check.deliver(y, RECORD, 2);
        Check.loseAll(y);
        y.ask(0, PUT, 1, 1);
        Check.deliver(y, EXEC, 0);
        Check.deliver(y, RECORD, 2);
        Check.deliver(y, REJECT, 0);
        Check.keepOnly(y, SYNCNOW);
        y.deliver(0);
        Check.letters("to each, by their numbers", y, SYNC, 0, 0, 1, SYNC, 0, 1, 1,
                SYNC, 0, 2, 1);
    }

    // "at a MASTER that lives"
    private static void syncNowAtACrashedMaster() {
        OneTrip x = rejectedAndWritten();
        x.twice(0);
        x.crash(0);
        Check.same("nothing", x.deliver(0), 1);
        OneTrip y = rejectedAndWritten();
        y.twice(0);
        y.sync(0);
        Check.syncAndAck(y, 0);
        y.crash(0);
        Check.keepOnly(y, SYNCNOW);
        Check.same("nothing of a SYNCED one", y.deliver(0), 1);
    }

    /** An update of client 0 is in the LOG, its SYNCNOW is the only letter. */
    private static OneTrip rejectedAndWritten() {
        OneTrip x = new OneTrip(1, 1, 1, 10);
        Check.same("held", reply(x, 1, PUT, 1, 0), ACCEPT);
        Check.same("rejected", reply(x, 0, PUT, 1, 0), REJECT);
        Check.deliver(x, EXEC, 0);
        Check.deliver(x, REJECT, 0);
        Check.keepOnly(x, SYNCNOW);
        Check.letters("its SYNCNOW", x, SYNCNOW, 0, 0, 1);
        Check.master("not SYNCED", x, 0, 1, 1, 0, 0, 0);
        return x;
    }
}
