import java.util.Collections;
import java.util.List;

/**
 * Promise 17, where audit() answers 1. No run of calls comes there (that is what the store is for),
 * so each test breaks one thing inside an object that was right.
 */
public final class AuditOfBrokenLogsTest {
    private static final int PUT = Check.PUT;
    private static final int ADD = Check.ADD;
    private static final int GET = Check.GET;

    public static void main(String[] args) {
        anUpdateThatIsDoneIsNotInTheLog();
        anUpdateThatIsNotDoneIsNotInTheLog();
        anUpdateThatIsDoneStandsTwice();
        anUpdateThatIsNotDoneStandsTwice();
        anotherAnswerThanTheOneTold();
        twoOfOneKeyOneDoneBeforeTheOther();
        twoOfOneKeyAskedForAtOnce();
        twoOfOneKeyWithTheLaterOneNotDone();
        twoOfOneKeyWithTheEarlierOneNotDone();
        twoOfTwoKeys();
        aGetToldAValueThatNeverWas();
        aGetToldAValueOfAnotherTime();
        aGetOfAnAdd();
        aGetOfAValueThatCameTwice();
        aGetOfAnEmptyLog();
        aGetThatIsNotDone();
        theLatestMasterAlone();
        oneThatDoesNotLive();
        Check.close("AuditOfBrokenLogsTest");
    }

    private static OneTrip roomy() {
        return new OneTrip(1, 4, 4, 10);
    }

    /** Updates of keys 0 to 4, each done, by all clients in turn. */
    private static OneTrip five() {
        OneTrip x = roomy();
        for (int i = 0; i < 5; i++) {
            Check.told(x, i % 4, i % 2, i, 5);
        }
        Check.same("right as yet", x.audit(), 0);
        return x;
    }

    // "each UPDATE that is DONE stands once in its LOG"
    private static void anUpdateThatIsDoneIsNotInTheLog() {
        for (int i = 0; i < 5; i++) {
            OneTrip x = five();
            Object lost = Inside.log(x, 0).remove(i);
            Check.same("update " + i + " is lost", x.audit(), 1);
            Check.changesNothing("and asking changes nothing", x, 1, x::audit);
            Inside.log(x, 0).add(i, lost);
            Check.same("it is back", x.audit(), 0);
        }
        OneTrip x = roomy();
        Check.told(x, 0, PUT, 1, 5);
        Inside.log(x, 0).clear();
        Check.same("the only one is lost", x.audit(), 1);
    }

    // "that is DONE"
    private static void anUpdateThatIsNotDoneIsNotInTheLog() {
        OneTrip x = five();
        x.ask(3, PUT, 1, 5);
        Check.deliver(x, Check.EXEC, 3);
        Check.same("in the LOG", x.master(0, 1), 6);
        Inside.log(x, 0).remove(5);
        Check.same("one that is not DONE is lost", x.audit(), 0);
    }

    // "stands once"
    private static void anUpdateThatIsDoneStandsTwice() {
        for (int i = 0; i < 5; i++) {
            for (int at = 0; at <= 5; at++) {
                OneTrip x = five();
                List<Object> log = Inside.log(x, 0);
                log.add(at, log.get(i));
                Check.same("update " + i + " stands at " + at + " too", x.audit(), 1);
            }
        }
    }

    private static void anUpdateThatIsNotDoneStandsTwice() {
        OneTrip x = roomy();
        x.ask(3, PUT, 1, 5);
        Check.deliver(x, Check.EXEC, 3);
        List<Object> log = Inside.log(x, 0);
        log.add(log.get(0));
        Check.same("one that is not DONE stands twice", x.audit(), 0);
    }

    // "with the answer told"
    private static void anotherAnswerThanTheOneTold() {
        for (int i = 0; i < 5; i++) {
            OneTrip x = five();
            Object op = Inside.operation(x, i);
            int told = (Integer) Inside.get(op, "told");
            for (int other : new int[] {told + 1, told - 1, told ^ Integer.MIN_VALUE}) {
                Inside.set(op, "told", other);
                Check.same("told " + other + " of update " + i, x.audit(), 1);
            }
            Inside.set(op, "told", told);
            Check.same("told what it was", x.audit(), 0);
        }
    }

    // "of two of one KEY, one DONE before the other was asked for stands ahead"
    private static void twoOfOneKeyOneDoneBeforeTheOther() {
        for (int between = 0; between < 3; between++) {
            for (int ahead = 0; ahead < 3; ahead++) {
                OneTrip x = roomy();
                tellSome(x, ahead, 1);
                Check.told(x, 0, PUT, 15, 5);
                tellSome(x, between, 4);
                Check.told(x, 1, PUT, 15, 6);
                Check.same("right as yet", x.audit(), 0);
                Collections.swap(Inside.log(x, 0), ahead, ahead + 1 + between);
                Check.same(between + " between, " + ahead + " ahead", x.audit(), 1);
            }
        }
    }

    private static void tellSome(OneTrip x, int many, int firstKey) {
        for (int i = 0; i < many; i++) {
            Check.told(x, 2, PUT, firstKey + i, 5);
        }
    }

    // "before the other was asked for"
    private static void twoOfOneKeyAskedForAtOnce() {
        OneTrip x = roomy();
        x.ask(0, PUT, 1, 5);
        x.ask(1, PUT, 1, 6);
        Check.deliverAll(x);
        Check.same("both are DONE", x.count(3), 2);
        Collections.swap(Inside.log(x, 0), 0, 1);
        Check.same("asked for ahead of its being DONE: any order", x.audit(), 0);
    }

    // "one DONE before the other": the other one need not be
    private static void twoOfOneKeyWithTheLaterOneNotDone() {
        OneTrip x = roomy();
        Check.told(x, 0, PUT, 1, 5);
        x.ask(1, PUT, 1, 6);
        Check.deliver(x, Check.EXEC, 1);
        Check.same("right as yet", x.audit(), 0);
        Collections.swap(Inside.log(x, 0), 0, 1);
        Check.same("one that is not DONE stands ahead", x.audit(), 1);
        Inside.log(x, 0).remove(0);
        Check.same("and is no more", x.audit(), 0);
    }

    // "one DONE before the other"
    private static void twoOfOneKeyWithTheEarlierOneNotDone() {
        OneTrip x = roomy();
        x.ask(0, PUT, 1, 5);
        Check.deliver(x, Check.EXEC, 0);
        Check.loseAll(x);
        Check.told(x, 1, PUT, 1, 6);
        Check.same("the earlier one is not DONE", x.client(0, 1), 0);
        Collections.swap(Inside.log(x, 0), 0, 1);
        Check.same("any order", x.audit(), 0);
    }

    // "of one KEY"
    private static void twoOfTwoKeys() {
        OneTrip x = five();
        Collections.reverse(Inside.log(x, 0));
        Check.same("of five keys, any order", x.audit(), 0);
    }

    // "each GET that is DONE told the VALUE that its KEY has behind some first ones of its LOG"
    private static void aGetToldAValueThatNeverWas() {
        OneTrip x = roomy();
        Check.told(x, 0, PUT, 2, 7);
        Check.told(x, 1, PUT, 1, 5);
        x.ask(2, PUT, 1, 6);
        Check.told(x, 3, GET, 1, 0);
        Check.same("right as yet", x.audit(), 0);
        for (int other : new int[] {-1, 4, 7, 11, Integer.MIN_VALUE}) {
            Inside.set(Inside.operation(x, 3), "told", other);
            Check.same("told " + other, x.audit(), 1);
        }
    }

    // "behind all UPDATES of the KEY DONE before it was asked for, and ahead of all of the KEY that
    // were asked for behind its being DONE"
    private static void aGetToldAValueOfAnotherTime() {
        int[] due = {1, 1, 0, 0, 1, 1};
        for (int told = 0; told < due.length; told++) {
            for (int others = 0; others < 3; others++) {
                OneTrip x = getBetween(others);
                Object get = Inside.operation(x, 3 + 3 * others);
                Check.same("it is the GET", Inside.get(get, "what"), GET);
                Inside.set(get, "told", told);
                Check.same("told " + told + ", " + others + " of others", x.audit(), due[told]);
            }
        }
    }

    /**
     * PUTS of 1 to 5 to key 9: 1 and 2 are DONE before the GET is asked for, 3 is asked for ahead
     * of it and not DONE till then, 4 and 5 are asked for behind its being DONE.
     */
    private static OneTrip getBetween(int others) {
        OneTrip x = roomy();
        tellSome(x, others, 0);
        Check.told(x, 0, PUT, 9, 1);
        tellSome(x, others, 2);
        Check.told(x, 1, PUT, 9, 2);
        tellSome(x, others, 4);
        x.ask(0, PUT, 9, 3);
        Check.told(x, 3, GET, 9, 0);
        tellSome(x, others, 6);
        Check.told(x, 1, PUT, 9, 4);
        tellSome(x, others, 10);
        x.ask(2, PUT, 9, 5);
        Check.deliver(x, Check.EXEC, 2);
        Check.same("right as yet", x.audit(), 0);
        return x;
    }

    // the VALUE behind an ADD is the sum
    private static void aGetOfAnAdd() {
        int[] due = {1, 1, 0, 1};
        int[] told = {0, 5, Integer.MIN_VALUE, Integer.MAX_VALUE - 4};
        for (int i = 0; i < told.length; i++) {
            OneTrip x = roomy();
            Check.told(x, 0, PUT, 1, 5);
            Check.told(x, 1, ADD, 1, Integer.MAX_VALUE - 4);
            Check.same("the sum", Check.told(x, 2, GET, 1, 0), Integer.MIN_VALUE);
            Inside.set(Inside.operation(x, 2), "told", told[i]);
            Check.same("told " + told[i], x.audit(), due[i]);
        }
    }

    // "behind some first ones": any of those that fit
    private static void aGetOfAValueThatCameTwice() {
        OneTrip x = roomy();
        Check.told(x, 0, PUT, 1, 5);
        Check.told(x, 0, PUT, 1, 6);
        Check.told(x, 0, PUT, 1, 5);
        Check.told(x, 1, GET, 1, 0);
        Check.told(x, 0, PUT, 1, 6);
        Check.told(x, 0, PUT, 1, 5);
        Check.same("5 came twice before and once behind", x.audit(), 0);
        Inside.set(Inside.operation(x, 3), "told", 6);
        Check.same("6 came before and behind, not at its time", x.audit(), 1);
    }

    // some first ones of none
    private static void aGetOfAnEmptyLog() {
        OneTrip x = roomy();
        Check.told(x, 0, GET, 1, 0);
        Check.same("0", x.audit(), 0);
        Inside.set(Inside.operation(x, 0), "told", 1);
        Check.same("1", x.audit(), 1);
        Check.told(x, 1, PUT, 1, 1);
        Check.same("also if it comes later", x.audit(), 1);
    }

    // "each GET that is DONE"
    private static void aGetThatIsNotDone() {
        OneTrip x = five();
        x.ask(0, GET, 1, 0);
        Inside.set(Inside.operation(x, 5), "told", 77);
        Check.same("one that is not DONE told nothing", x.audit(), 0);
    }

    // "of the MASTER of the latest EPOCH"
    private static void theLatestMasterAlone() {
        OneTrip x = five();
        x.decide(0, 0);
        Check.same("right as yet", x.audit(), 0);
        Inside.log(x, 0).clear();
        Check.same("the one before has lost all", x.audit(), 0);
        Inside.log(x, 1).remove(4);
        Check.same("the latest one has lost one", x.audit(), 1);
    }

    // "(if it does not live: 0)"
    private static void oneThatDoesNotLive() {
        OneTrip x = five();
        Inside.log(x, 0).clear();
        Check.same("all is lost", x.audit(), 1);
        x.crash(0);
        Check.same("it does not live", x.audit(), 0);
    }
}
