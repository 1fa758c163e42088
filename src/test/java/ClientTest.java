/** Promises 1 to 4 and 12: a new object, ask, retry, learn, client. */
public final class ClientTest {
    private static final int PUT = 0;
    private static final int ADD = 1;
    private static final int GET = 2;

    public static void main(String[] args) {
        aNewObjectIsEmpty();
        numbersOfAnotherKindGoToTheNearest();
        askNumbersTheOperationsOfEachClient();
        askSendsExecAndRecords();
        askOfABusyClientIsNone();
        askRefuses();
        updatesAnswerAsTold();
        retrySendsAgainAndForgets();
        retryOfADoneOneIsFalse();
        learnTriesAgain();
        learnOfTheSameEpochSendsNothing();
        learnOfADoneOneSendsNothing();
        clientTellsItsStanding();
        doneByAcceptsIsCountedApartFromSafe();
        safeAnswerWithAllAcceptsIsNotByAccepts();
        clientRefuses();
        Check.close("ClientTest");
    }

    private static void aNewObjectIsEmpty() {
        OneTrip x = new OneTrip(2, 3, 2, 4);
        int[] counts = {0, 1, 0, 0, 0, 2, 3, 2, 4};
        for (int what = 0; what < counts.length; what++) {
            Check.same("new, count " + what, x.count(what), counts[what]);
        }
        int[] clients = {0, 1, 0, 0, 0, 0, 0};
        for (int c = 0; c < 4; c++) {
            for (int what = 0; what < clients.length; what++) {
                Check.same("new, client " + what, x.client(c, what), clients[what]);
            }
        }
        int[] masters = {1, 0, 0, 0, 0};
        for (int what = 0; what < masters.length; what++) {
            Check.same("new, master " + what, x.master(0, what), masters[what]);
        }
        for (int key = 0; key < 16; key++) {
            Check.same("new, value", x.value(0, key), 0);
        }
        for (int i = 0; i < 2; i++) {
            Check.same("new, backup's epoch", x.backup(i, 0), 0);
            Check.same("new, backup's log", x.backup(i, 1), 0);
            for (int what = 0; what < 4; what++) {
                Check.same("new, witness " + what, x.witness(i, what), 0);
            }
        }
        Check.same("new, audit", x.audit(), 0);
    }

    private static void numbersOfAnotherKindGoToTheNearest() {
        OneTrip least = new OneTrip(0, -1, Integer.MIN_VALUE, 0);
        OneTrip most = new OneTrip(4, 5, Integer.MAX_VALUE, 11);
        OneTrip asGiven = new OneTrip(3, 4, 4, 10);
        int[] mostDue = {3, 4, 4, 10};
        for (int i = 0; i < 4; i++) {
            Check.same("least " + i, least.count(5 + i), 1);
            Check.same("most " + i, most.count(5 + i), mostDue[i]);
            Check.same("as given " + i, asGiven.count(5 + i), mostDue[i]);
        }
        Check.outOfBounds("one backup only", least, () -> least.backup(1, 0));
        Check.same("three witnesses", most.witness(2, 0), 0);
    }

    private static void askNumbersTheOperationsOfEachClient() {
        OneTrip x = new OneTrip(1, 1, 1, 10);
        Check.same("first of 0", x.ask(0, PUT, 1, 5), 1);
        Check.same("first of 3", x.ask(3, ADD, 15, 5), 1);
        Check.deliverAll(x);
        Check.same("second of 0", x.ask(0, GET, 1, 5), 2);
        Check.same("operations", x.count(2), 3);
    }

    private static void askSendsExecAndRecords() {
        OneTrip x = new OneTrip(3, 1, 1, 10);
        x.ask(2, ADD, 0, 7);
        Check.letters("an update", x,
                0, 0, 2, 1, 1, 0, 0, 1, 1, 0, 1, 1, 1, 0, 2, 1);
        x.ask(1, GET, 0, 7);
        Check.same("letters with a get", x.count(0), 5);
        Check.same("a get's exec", x.letter(4, 0) * 10 + x.letter(4, 2), 1);
    }

    private static void askOfABusyClientIsNone() {
        OneTrip x = new OneTrip(1, 1, 1, 10);
        x.ask(0, PUT, 1, 5);
        Check.same("busy", x.ask(0, PUT, 2, 6), OneTrip.NONE);
        Check.same("nothing sent", x.count(0), 2);
        Check.same("nothing asked for", x.count(2), 1);
        Check.same("the number stays", x.client(0, 0), 1);
        Check.badArgument("a wrong what also if busy", x, () -> x.ask(0, 3, 1, 5));
        Check.deliverAll(x);
        Check.same("not busy any more", x.ask(0, PUT, 2, 6), 2);
    }

    private static void askRefuses() {
        OneTrip x = new OneTrip(1, 1, 1, 10);
        Check.outOfBounds("client -1", x, () -> x.ask(-1, PUT, 0, 0));
        Check.outOfBounds("client 4", x, () -> x.ask(4, PUT, 0, 0));
        Check.outOfBounds("key -1", x, () -> x.ask(0, PUT, -1, 0));
        Check.outOfBounds("key 16", x, () -> x.ask(0, ADD, 16, 0));
        Check.outOfBounds("key 16 of a get", x, () -> x.ask(0, GET, 16, 0));
        Check.badArgument("what -1", x, () -> x.ask(0, -1, 0, 0));
        Check.badArgument("what 3", x, () -> x.ask(0, 3, 0, 0));
        Check.same("nothing asked for", x.count(2), 0);
        Check.same("nothing sent", x.count(0), 0);
    }

    /** Asks, has all delivered, and tells the answer. */
    private static int answerTo(OneTrip x, int what, int key, int v) {
        x.ask(0, what, key, v);
        Check.deliverAll(x);
        Check.same("it is done", x.client(0, 1), 1);
        return x.client(0, 2);
    }

    private static void updatesAnswerAsTold() {
        OneTrip x = new OneTrip(2, 2, 2, 1);
        Check.same("put: the value before", answerTo(x, PUT, 3, Integer.MAX_VALUE), 0);
        Check.same("put again", answerTo(x, PUT, 3, Integer.MAX_VALUE), Integer.MAX_VALUE);
        Check.same("add goes round", answerTo(x, ADD, 3, 2), Integer.MIN_VALUE + 1);
        Check.same("get", answerTo(x, GET, 3, 99), Integer.MIN_VALUE + 1);
        Check.same("another key's get", answerTo(x, GET, 4, 99), 0);
        Check.same("a get is no update", x.master(0, 1), 3);
        Check.same("all done", x.count(3), 5);
        Check.same("audit", x.audit(), 0);
    }

    private static void retrySendsAgainAndForgets() {
        OneTrip x = new OneTrip(2, 1, 1, 10);
        x.ask(1, PUT, 4, 9);
        x.deliver(0);
        x.deliver(0);
        Check.deliverKind(x, 2);
        Check.deliverKind(x, 3);
        Check.same("an answer", x.client(1, 5), 1);
        Check.same("one accepts", x.client(1, 4), 1);
        Check.loseAll(x);
        Check.same("tries again", x.retry(1), true);
        Check.letters("the same letters", x, 0, 0, 1, 1, 1, 0, 0, 1, 1, 0, 1, 1);
        Check.same("no answer", x.client(1, 5), 0);
        Check.same("no accepts", x.client(1, 4), 0);
        Check.deliverKind(x, 1);
        Check.deliverKind(x, 1);
        Check.deliverKind(x, 3);
        Check.deliverKind(x, 3);
        Check.same("accepts without an answer", x.client(1, 4), 2);
        Check.same("not done", x.client(1, 1), 0);
        Check.deliverAll(x);
        Check.same("done", x.client(1, 1), 1);
        Check.same("executed once", x.master(0, 1), 1);
    }

    private static void retryOfADoneOneIsFalse() {
        OneTrip x = new OneTrip(1, 1, 1, 10);
        Check.same("none asked for", x.retry(0), false);
        x.ask(0, PUT, 4, 9);
        Check.deliverAll(x);
        Check.same("done", x.retry(0), false);
        Check.same("nothing sent", x.count(0), 0);
        Check.same("the accepts stay", x.client(0, 4), 1);
        Check.outOfBounds("client -1", x, () -> x.retry(-1) ? 1 : 0);
        Check.outOfBounds("client 4", x, () -> x.retry(4) ? 1 : 0);
    }

    private static void learnTriesAgain() {
        OneTrip x = new OneTrip(1, 1, 1, 10);
        x.ask(0, ADD, 2, 5);
        x.deliver(0);
        Check.deliverKind(x, 2);
        Check.loseAll(x);
        x.decide(0, 0);
        Check.same("it knows the old one", x.client(0, 3), 0);
        Check.same("learns", x.learn(0), 1);
        Check.same("it knows the new one", x.client(0, 3), 1);
        Check.letters("asks the new one", x, 0, 1, 0, 1, 1, 1, 0, 1);
        Check.same("forgets the answer", x.client(0, 5), 0);
        Check.same("others do not learn", x.client(1, 3), 0);
        Check.outOfBounds("client -1", x, () -> x.learn(-1));
        Check.outOfBounds("client 4", x, () -> x.learn(4));
    }

    private static void learnOfTheSameEpochSendsNothing() {
        OneTrip x = new OneTrip(1, 1, 1, 10);
        x.ask(0, ADD, 2, 5);
        x.deliver(0);
        Check.deliverKind(x, 2);
        Check.same("learns what it knows", x.learn(0), 0);
        Check.same("nothing sent", x.count(0), 1);
        Check.same("the answer stays", x.client(0, 5), 1);
    }

    private static void learnOfADoneOneSendsNothing() {
        OneTrip x = new OneTrip(1, 1, 1, 10);
        x.ask(0, ADD, 2, 5);
        Check.deliverAll(x);
        x.decide(0, 0);
        x.decide(0, 0);
        Check.same("learns the latest", x.learn(0), 2);
        Check.same("done", x.count(0), 0);
        Check.same("none asked for", x.learn(1), 2);
        Check.same("still nothing", x.count(0), 0);
        x.ask(0, GET, 2, 0);
        Check.same("asks the latest", x.letter(0, 1), 2);
    }

    private static void clientTellsItsStanding() {
        OneTrip x = new OneTrip(2, 1, 1, 10);
        x.ask(3, ADD, 6, 11);
        Check.same("number", x.client(3, 0), 1);
        Check.same("not done", x.client(3, 1), 0);
        Check.same("told nothing", x.client(3, 2), 0);
        Check.same("no answer", x.client(3, 5), 0);
        x.deliver(0);
        Check.deliverKind(x, 2);
        Check.same("an answer, not safe", x.client(3, 5), 1);
        Check.same("not told yet", x.client(3, 2), 0);
        x.deliver(0);
        Check.deliverKind(x, 3);
        Check.same("one of two", x.client(3, 4), 1);
        Check.same("still not done", x.client(3, 1), 0);
        x.deliver(0);
        x.twice(0);
        Check.deliverAll(x);
        Check.same("done", x.client(3, 1), 1);
        Check.same("told", x.client(3, 2), 11);
        Check.same("both", x.client(3, 4), 2);
        Check.same("the answer counts no more", x.client(3, 5), 0);
        Check.same("by accepts", x.client(3, 6), 1);
        x.ask(3, GET, 6, 0);
        Check.same("told nothing of the next", x.client(3, 2), 0);
        Check.same("no accepts of the next", x.client(3, 4), 0);
        Check.same("by accepts before", x.client(3, 6), 1);
    }

    private static void doneByAcceptsIsCountedApartFromSafe() {
        OneTrip x = new OneTrip(1, 1, 1, 10);
        x.ask(0, PUT, 1, 5);
        Check.deliverAll(x);
        x.ask(0, PUT, 1, 6);
        Check.deliverAll(x);
        Check.same("done", x.count(3), 2);
        Check.same("one of them by accepts", x.client(0, 6), 1);
        Check.same("told by the master", x.client(0, 2), 5);
    }

    private static void safeAnswerWithAllAcceptsIsNotByAccepts() {
        OneTrip x = new OneTrip(1, 1, 1, 1);
        x.ask(0, PUT, 1, 5);
        x.deliver(0);
        // RECORD, ANSWER (not safe), SYNC: the answer is lost, the rest is read.
        x.lose(1);
        x.deliver(1);
        x.deliver(1);
        Check.deliverKind(x, 8);
        Check.deliverAll(x);
        Check.same("accepted", x.client(0, 4), 1);
        Check.same("no answer", x.client(0, 1), 0);
        x.retry(0);
        Check.deliverKind(x, 1);
        Check.deliverKind(x, 3);
        Check.same("accepted again", x.client(0, 4), 1);
        Check.deliverAll(x);
        Check.same("done", x.client(0, 1), 1);
        Check.same("not by accepts", x.client(0, 6), 0);
    }

    private static void clientRefuses() {
        OneTrip x = new OneTrip(1, 1, 1, 1);
        Check.outOfBounds("client -1", x, () -> x.client(-1, 0));
        Check.outOfBounds("client 4", x, () -> x.client(4, 0));
        Check.badArgument("what -1", x, () -> x.client(0, -1));
        Check.badArgument("what 7", x, () -> x.client(0, 7));
    }
}
