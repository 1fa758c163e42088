/** Promises 8, 9, 13 and 14: sync, crash, master, value. */
public final class MasterTest {
    private static final int PUT = 0;
    private static final int ADD = 1;
    private static final int GET = 2;

    public static void main(String[] args) {
        syncGoesToEachBackup();
        syncOfASettledEpochResets();
        syncOfACrashedOneIsFalse();
        syncOfAnOlderEpoch();
        crashEndsAMasterOnce();
        crashForgetsWaitingGets();
        crashLeavesTheRest();
        masterTellsItsStanding();
        masterTellsHowItBegan();
        valueIsBehindTheWholeLog();
        callsRefuse();
        Check.close("MasterTest");
    }

    private static void expect(String what, OneTrip x, int epoch, int... due) {
        for (int i = 0; i < due.length; i++) {
            Check.same(what + ", master(" + epoch + ", " + i + ")", x.master(epoch, i), due[i]);
        }
    }

    private static void syncGoesToEachBackup() {
        OneTrip x = new OneTrip(3, 1, 1, 10);
        Check.same("it lives", x.sync(0), true);
        Check.letters("to each, by their numbers", x, 6, 0, 0, 0, 6, 0, 1, 0, 6, 0, 2, 0);
        Check.deliverAll(x);
        Check.same("again", x.sync(0), true);
        Check.same("epoch 0 is settled but resets nobody", x.count(0), 3);
        x.ask(0, PUT, 1, 1);
        x.deliver(3);
        x.sync(0);
        Check.same("how many the log has now", x.letter(x.count(0) - 1, 3), 1);
    }

    private static void syncOfASettledEpochResets() {
        OneTrip x = new OneTrip(2, 1, 1, 10);
        x.decide(1, 1);
        x.sync(1);
        Check.letters("not settled", x, 6, 1, 0, 0, 6, 1, 1, 0);
        Check.deliverAll(x);
        x.sync(1);
        Check.letters("settled", x, 6, 1, 0, 0, 6, 1, 1, 0, 9, 1, 0, 0, 9, 1, 1, 0);
    }

    private static void syncOfACrashedOneIsFalse() {
        OneTrip x = new OneTrip(1, 1, 1, 10);
        x.crash(0);
        Check.same("crashed", x.sync(0), false);
        Check.same("nothing sent", x.count(0), 0);
        x.decide(0, 0);
        Check.same("the next lives", x.sync(1), true);
        Check.same("the one before does not", x.sync(0), false);
    }

    private static void syncOfAnOlderEpoch() {
        OneTrip x = new OneTrip(1, 1, 1, 10);
        x.decide(0, 0);
        x.sync(1);
        Check.deliverAll(x);
        x.decide(0, 0);
        Check.same("it lives on", x.sync(1), true);
        Check.letters("settled still", x, 6, 1, 0, 0, 9, 1, 0, 0);
        Check.deliverAll(x);
        Check.same("the witness stays frozen", x.witness(0, 1), 1);
        Check.same("nobody listens", x.backup(0, 0), 2);
    }

    private static void crashEndsAMasterOnce() {
        OneTrip x = new OneTrip(1, 1, 1, 10);
        Check.same("it lived", x.crash(0), true);
        Check.same("lives no more", x.master(0, 0), 0);
        Check.same("it did not live", x.crash(0), false);
        x.decide(0, 0);
        Check.same("the next one lives", x.master(1, 0), 1);
        Check.same("the one before still does not", x.master(0, 0), 0);
        x.decide(0, 0);
        Check.same("an older one lives till its crash", x.master(1, 0), 1);
        Check.same("and is crashed by its own number", x.crash(1), true);
        Check.same("the latest goes on", x.master(2, 0), 1);
    }

    private static void crashForgetsWaitingGets() {
        OneTrip x = new OneTrip(1, 1, 1, 10);
        x.ask(0, GET, 1, 0);
        x.deliver(0);
        expect("one waits", x, 0, 1, 0, 0, 1, 0);
        x.crash(0);
        expect("none waits", x, 0, 0, 0, 0, 0, 0);
        Check.deliverAll(x);
        Check.same("no answer", x.client(0, 1), 0);
    }

    private static void crashLeavesTheRest() {
        OneTrip x = new OneTrip(1, 1, 1, 10);
        x.ask(0, PUT, 1, 7);
        x.deliver(0);
        x.sync(0);
        x.deliver(2);
        x.deliver(2);
        x.crash(0);
        expect("its log stays", x, 0, 0, 1, 1, 0, 0);
        Check.same("its value stays", x.value(0, 1), 7);
        Check.same("letters stay", x.count(0), 3);
        Check.deliverAll(x);
        Check.same("answer and accept were on their way", x.client(0, 1), 1);
    }

    private static void masterTellsItsStanding() {
        OneTrip x = new OneTrip(2, 4, 4, 10);
        x.ask(0, PUT, 1, 7);
        x.deliver(0);
        x.ask(1, PUT, 2, 8);
        x.deliver(3);
        expect("two in the log", x, 0, 1, 2, 0, 0, 0);
        x.ask(2, GET, 1, 8);
        Check.deliverKind(x, 0);
        expect("a get waits", x, 0, 1, 2, 0, 1, 0);
        Check.deliverKind(x, 6);
        Check.deliverKind(x, 7);
        expect("one backup told", x, 0, 1, 2, 0, 1, 0);
        Check.deliverKind(x, 6);
        Check.deliverKind(x, 7);
        expect("both told", x, 0, 1, 2, 2, 0, 0);
    }

    private static void masterTellsHowItBegan() {
        OneTrip x = new OneTrip(1, 4, 4, 10);
        x.ask(0, PUT, 1, 7);
        x.deliver(0);
        x.sync(0);
        Check.deliverAll(x);
        x.ask(1, PUT, 2, 8);
        Check.deliverAll(x);
        x.decide(0, 0);
        expect("of the backup and the witness", x, 1, 1, 2, 0, 0, 2);
        x.learn(2);
        x.ask(2, PUT, 3, 9);
        x.deliver(0);
        expect("it grows, but began so", x, 1, 1, 3, 0, 0, 2);
        expect("the one before stays", x, 0, 1, 2, 1, 0, 0);
    }

    private static void valueIsBehindTheWholeLog() {
        OneTrip x = new OneTrip(1, 1, 1, 10);
        x.ask(0, PUT, 15, 7);
        x.ask(1, ADD, 15, -9);
        x.ask(2, GET, 15, 100);
        Check.same("nothing yet", x.value(0, 15), 0);
        x.deliver(0);
        Check.same("put", x.value(0, 15), 7);
        x.deliver(1);
        Check.same("added, though late", x.value(0, 15), -2);
        x.deliver(2);
        Check.same("a get changes nothing", x.value(0, 15), -2);
        Check.same("other keys", x.value(0, 14), 0);
        x.decide(0, 0);
        Check.same("of the new epoch", x.value(1, 15), 0);
        x.crash(0);
        Check.same("of a crashed one", x.value(0, 15), -2);
    }

    private static void callsRefuse() {
        OneTrip x = new OneTrip(1, 1, 1, 10);
        x.decide(0, 0);
        for (int epoch : new int[] {-1, 2, 11, 12}) {
            Check.outOfBounds("sync " + epoch, x, () -> x.sync(epoch) ? 1 : 0);
            Check.outOfBounds("crash " + epoch, x, () -> x.crash(epoch) ? 1 : 0);
            Check.outOfBounds("master " + epoch, x, () -> x.master(epoch, 0));
            Check.outOfBounds("value " + epoch, x, () -> x.value(epoch, 0));
        }
        Check.outOfBounds("key -1", x, () -> x.value(0, -1));
        Check.outOfBounds("key 16", x, () -> x.value(1, 16));
        Check.badArgument("what -1", x, () -> x.master(0, -1));
        Check.badArgument("what 5", x, () -> x.master(1, 5));
        Check.same("nothing sent", x.count(0), 0);
    }
}
