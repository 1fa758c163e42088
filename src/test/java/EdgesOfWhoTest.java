/** 'Terms' 1, each sentence with an edge in it: who there is, how many, what they begin with. */
public final class EdgesOfWhoTest {
    private static final int PUT = Check.PUT;
    private static final int ADD = Check.ADD;
    private static final int GET = Check.GET;
    private static final int LEAST = Integer.MIN_VALUE;
    private static final int MOST = Integer.MAX_VALUE;

    public static void main(String[] args) {
        asManyBackupsAndWitnessesAsF();
        clientsAre0To3();
        epochsAreAtMost12();
        mastersLiveTillTheyCrash();
        keysAre0To15();
        valuesAre0AtFirst();
        operationsAreAtMost600();
        numbersAreEachClientsOwnFrom1();
        putAnswersTheValueBefore();
        addGoesRoundAt32Bits();
        getAnswersTheValue();
        onlyUpdatesAreWrittenAndRecorded();
        aLogHasEachUpdateOnce();
        aLogKeepsOrderAndAnswers();
        syncedIsTheLeastTold();
        syncedIs0AsLongAsOneToldNothing();
        getsWaitTillTheyAreAnswered();
        aSetHasWaysPlaces();
        aKeyStandsInItsSet();
        atFirstThereIsNothing();
        Check.close("EdgesOfWhoTest");
    }

    // "F (1 to 3) BACKUPS and F WITNESSES, numbered from 0 on."
    private static void asManyBackupsAndWitnessesAsF() {
        for (int f = 1; f <= 3; f++) {
            OneTrip x = new OneTrip(f, 2, 2, 3);
            Check.same("F", x.count(5), f);
            Check.backup("the last backup", x, f - 1, 0, 0);
            Check.witness("the last witness", x, f - 1, 0, 0, 0, 0);
            for (int none : Check.noneOf(f)) {
                Check.outOfBounds("backup " + none, x, () -> x.backup(none, 0));
                Check.outOfBounds("witness " + none, x, () -> x.witness(none, 0));
            }
            Check.same("the last of both", x.decide(f - 1, f - 1), 1);
            Check.backup("it took part", x, f - 1, 1, 0);
            Check.witness("it took part", x, f - 1, 1, 1, 0, 0);
            x.ask(0, PUT, 0, 0);
            Check.same("a RECORD to each", Check.many(x, Check.RECORD), f);
            Check.same("the last one", x.letter(f, 2), f - 1);
            x.sync(0);
            Check.same("a SYNC to each", Check.many(x, Check.SYNC), f);
            Check.same("the last of these", x.letter(x.count(0) - 1, 2), f - 1);
        }
    }

    // "CLIENTS 0 to 3."
    private static void clientsAre0To3() {
        OneTrip x = new OneTrip(1, 4, 4, 10);
        for (int c = 0; c < 4; c++) {
            Check.same("client " + c, x.ask(c, PUT, c, c), 1);
            Check.same("of the letter", x.letter(2 * c, 2), c);
        }
        for (int none : Check.noneOf(4)) {
            Check.outOfBounds("ask of client " + none, x, () -> x.ask(none, PUT, 0, 0));
            Check.outOfBounds("retry of client " + none, x, () -> Check.asBit(x.retry(none)));
            Check.outOfBounds("learn of client " + none, x, () -> x.learn(none));
            Check.outOfBounds("client " + none, x, () -> x.client(none, 0));
        }
    }

    // "EPOCHS from 0 on (at most 12)"
    private static void epochsAreAtMost12() {
        OneTrip x = new OneTrip(2, 2, 2, 3);
        for (int none : Check.noneOf(1)) {
            Check.outOfBounds("epoch " + none + " of one", x, () -> x.master(none, 0));
        }
        for (int epoch = 1; epoch <= 11; epoch++) {
            Check.same("the next epoch", x.decide(epoch % 2, 0), epoch);
            Check.same("so many", x.count(1), epoch + 1);
        }
        x.ask(0, PUT, 1, 1);
        Check.changesNothing("a thirteenth", x, Check.UNSUPPORTED, () -> x.decide(0, 0));
        Check.changesNothing("nor of others", x, Check.UNSUPPORTED, () -> x.decide(1, 1));
        Check.master("the last one lives", x, 11, 1, 0, 0, 0, 0);
        Check.same("and can be known", x.learn(0), 11);
        for (int none : Check.noneOf(12)) {
            Check.outOfBounds("epoch " + none + " of 12", x, () -> x.master(none, 0));
        }
    }

    // "each has a MASTER, which lives till it is crashed (also when a later EPOCH has come)"
    private static void mastersLiveTillTheyCrash() {
        OneTrip x = new OneTrip(1, 1, 1, 1);
        x.ask(0, PUT, 1, 5);
        for (int epoch = 1; epoch < 12; epoch++) {
            x.decide(0, 0);
        }
        for (int epoch = 0; epoch < 12; epoch++) {
            Check.same("lives beside later ones", x.master(epoch, 0), 1);
        }
        Check.deliver(x, Check.EXEC, 0);
        Check.master("the first one reads on", x, 0, 1, 1, 0, 0, 0);
        Check.same("and answers", Check.many(x, Check.ANSWER), 1);
        Check.same("and sends SYNC", Check.many(x, Check.SYNC), 1);
        for (int epoch = 0; epoch < 12; epoch += 11) {
            Check.same("it lived", x.crash(epoch), true);
            Check.same("not any more", x.master(epoch, 0), 0);
            Check.same("the next one to it does", x.master(epoch == 0 ? 1 : 10, 0), 1);
        }
    }

    // "KEYS 0 to 15"
    private static void keysAre0To15() {
        OneTrip x = new OneTrip(1, 4, 4, 10);
        for (int key = 0; key < 16; key++) {
            Check.same("key " + key, Check.told(x, 0, PUT, key, 100 + key), 0);
        }
        for (int key = 0; key < 16; key++) {
            Check.same("each its own", x.value(0, key), 100 + key);
        }
        for (int none : Check.noneOf(16)) {
            for (int what = 0; what < 3; what++) {
                int asked = what;
                Check.outOfBounds("key " + none, x, () -> x.ask(0, asked, none, 1));
            }
            Check.outOfBounds("value of key " + none, x, () -> x.value(0, none));
        }
    }

    // "have VALUES, ints, 0 at first."
    private static void valuesAre0AtFirst() {
        OneTrip x = new OneTrip(1, 4, 4, 10);
        for (int key = 0; key < 16; key++) {
            Check.same("value", x.value(0, key), 0);
        }
        Check.same("told by a GET", Check.told(x, 0, GET, 15, 9), 0);
        Check.same("told by a PUT", Check.told(x, 1, PUT, 15, 9), 0);
        Check.same("the start of an ADD", Check.told(x, 2, ADD, 0, 9), 9);
        x.decide(0, 0);
        Check.same("what nobody wrote is 0 in a later epoch too", x.value(1, 7), 0);
    }

    // "An OPERATION (at most 600 in all)": more than 512 calls, so nobody is promised to see it.
    private static void operationsAreAtMost600() {
        OneTrip x = new OneTrip(1, 1, 1, 10);
        for (int i = 0; i < 600; i++) {
            if (x.ask(i % 4, GET, 0, 0) != 1 + i / 4) {
                Check.same("number of operation " + i, false, true);
            }
            if (i < 599) {
                Check.deliverAll(x);
            }
        }
        Check.same("600", x.count(2), 600);
        Check.same("all but the last are done", x.count(3), 599);
        for (int c = 0; c < 4; c++) {
            int asker = c;
            Check.changesNothing("one more", x, OneTrip.NONE, () -> x.ask(asker, PUT, 1, 1));
        }
        Check.badArgument("a wrong what then too", x, () -> x.ask(0, 3, 1, 1));
        Check.deliverAll(x);
        Check.changesNothing("also when all are done", x, OneTrip.NONE, () -> x.ask(3, GET, 1, 1));
    }

    // "its number (of that CLIENT, from 1 on)"
    private static void numbersAreEachClientsOwnFrom1() {
        OneTrip x = new OneTrip(1, 4, 4, 10);
        int[] askers = {0, 3, 3, 0, 3, 1, 0};
        int[] numbers = {1, 1, 2, 2, 3, 1, 3};
        for (int i = 0; i < askers.length; i++) {
            Check.same("number", x.ask(askers[i], i % 3, i, 0), numbers[i]);
            Check.same("of the letter", x.letter(0, 3), numbers[i]);
            Check.same("of the client", x.client(askers[i], 0), numbers[i]);
            Check.deliverAll(x);
        }
        Check.same("ahead of any", x.client(2, 0), 0);
    }

    // "PUT (the KEY has that VALUE; the answer is the VALUE before)"
    private static void putAnswersTheValueBefore() {
        OneTrip x = new OneTrip(1, 1, 4, 10);
        int[] values = {MOST, LEAST, -1, 0, 1, 1};
        int before = 0;
        for (int value : values) {
            Check.same("the value before", Check.told(x, 0, PUT, 3, value), before);
            Check.same("the value behind it", x.value(0, 3), value);
            before = value;
        }
    }

    // "ADD (VALUE is more by that, going round at 32 bits; the answer is the new one)"
    private static void addGoesRoundAt32Bits() {
        int[][] sums = {{MOST, 1, LEAST}, {LEAST, -1, MOST}, {LEAST, LEAST, 0}, {MOST, MOST, -2},
            {5, 0, 5}, {-5, 5, 0}, {0, LEAST, LEAST}};
        for (int[] sum : sums) {
            OneTrip x = new OneTrip(1, 1, 4, 10);
            Check.told(x, 0, PUT, 3, sum[0]);
            Check.same("the new one", Check.told(x, 1, ADD, 3, sum[1]), sum[2]);
            Check.same("the value", x.value(0, 3), sum[2]);
            Check.same("told again by a GET", Check.told(x, 2, GET, 3, 0), sum[2]);
            x.decide(0, 0);
            Check.same("in the next epoch too", x.value(1, 3), sum[2]);
            Check.same("audit", x.audit(), 0);
        }
    }

    // "GET (the answer is the VALUE)"
    private static void getAnswersTheValue() {
        OneTrip x = new OneTrip(1, 1, 4, 10);
        for (int value : new int[] {MOST, LEAST, 0, -1}) {
            Check.told(x, 0, PUT, 15, value);
            Check.same("the value", Check.told(x, 1, GET, 15, 77), value);
            Check.same("which stays", x.value(0, 15), value);
        }
        Check.same("another key's", Check.told(x, 1, GET, 14, 77), 0);
    }

    // "PUT and ADD are UPDATES." "a LOG: UPDATES"; "RECORDS, UPDATES"
    private static void onlyUpdatesAreWrittenAndRecorded() {
        OneTrip x = new OneTrip(2, 1, 4, 10);
        x.ask(0, GET, 1, 5);
        Check.same("no RECORD of a GET", Check.many(x, Check.RECORD), 0);
        Check.deliverAll(x);
        Check.master("no GET in the LOG", x, 0, 1, 0, 0, 0, 0);
        for (int what = PUT; what <= ADD; what++) {
            x.ask(what, what, what, 5);
            Check.same("RECORDS of an update", Check.many(x, Check.RECORD), 2);
            Check.deliverAll(x);
            Check.same("it is in the LOG", x.master(0, 1), what + 1);
            Check.same("and held", x.witness(1, 2), what + 1);
        }
    }

    // "UPDATES, each once"
    private static void aLogHasEachUpdateOnce() {
        OneTrip x = new OneTrip(1, 1, 4, 10);
        x.ask(0, ADD, 1, 5);
        x.twice(0);
        x.retry(0);
        for (int i = 0; i < 3; i++) {
            Check.deliver(x, Check.EXEC, 0);
            Check.same("once in the LOG", x.master(0, 1), 1);
            Check.same("added once", x.value(0, 1), 5);
        }
        x.sync(0);
        Check.deliverAll(x);
        x.decide(0, 0);
        Check.same("once in the next LOG", x.master(1, 1), 1);
    }

    // "in order, with their answers; its VALUES are those behind all of it"
    private static void aLogKeepsOrderAndAnswers() {
        OneTrip x = new OneTrip(1, 1, 4, 10);
        x.ask(0, PUT, 1, 5);
        x.ask(1, ADD, 1, 6);
        x.ask(2, PUT, 1, 7);
        Check.deliver(x, Check.EXEC, 2);
        Check.deliver(x, Check.EXEC, 0);
        Check.deliver(x, Check.EXEC, 1);
        Check.same("behind all of it", x.value(0, 1), 11);
        Check.deliverAll(x);
        Check.same("the first one", x.client(2, 2), 0);
        Check.same("the second one", x.client(0, 2), 7);
        Check.same("the third one", x.client(1, 2), 11);
        Check.same("audit", x.audit(), 0);
    }

    // "SYNCED, how many of its LOG, from the first one on, all BACKUPS are known to have (the
    // least of what they told it"
    private static void syncedIsTheLeastTold() {
        for (int first = 0; first < 3; first++) {
            OneTrip x = new OneTrip(3, 4, 4, 10);
            x.sync(0);
            for (int c = 0; c < 3; c++) {
                x.ask(c, PUT, c, 1);
                Check.deliver(x, Check.EXEC, c);
                x.sync(0);
            }
            tell(x, first, 1);
            tell(x, (first + 1) % 3, 3);
            Check.same("one told nothing", x.master(0, 2), 0);
            tell(x, (first + 2) % 3, 2);
            Check.same("the least of 1, 3 and 2", x.master(0, 2), 1);
            tell(x, first, 3);
            Check.same("the least of 3, 3 and 2", x.master(0, 2), 2);
            tell(x, (first + 2) % 3, 3);
            Check.same("all have all", x.master(0, 2), 3);
        }
    }

    /** A backup reads the SYNC of so many, and the master its ACK. */
    private static void tell(OneTrip x, int backup, int many) {
        for (int k = 0; k < x.count(0); k++) {
            if (x.letter(k, 0) == Check.SYNC && x.letter(k, 2) == backup
                    && x.letter(k, 3) == many) {
                x.deliver(k);
                Check.deliver(x, Check.ACK, backup);
                return;
            }
        }
        Check.same("a SYNC of " + many + " to " + backup, false, true);
    }

    // "0 as long as one told nothing"
    private static void syncedIs0AsLongAsOneToldNothing() {
        for (int silent = 0; silent < 3; silent++) {
            OneTrip x = new OneTrip(3, 4, 4, 10);
            x.ask(0, PUT, 1, 1);
            Check.deliver(x, Check.EXEC, 0);
            Check.loseAll(x);
            x.sync(0);
            for (int b = 0; b < 3; b++) {
                if (b != silent) {
                    Check.syncAndAck(x, b);
                }
            }
            Check.same("two of three told 1", x.master(0, 2), 0);
            Check.deliver(x, Check.SYNC, silent);
            Check.same("the third one has it", x.backup(silent, 1), 1);
            Check.same("but told nothing", x.master(0, 2), 0);
            Check.deliver(x, Check.ACK, silent);
            Check.same("now it did", x.master(0, 2), 1);
        }
    }

    // "and GETS that wait"
    private static void getsWaitTillTheyAreAnswered() {
        OneTrip x = new OneTrip(1, 4, 4, 10);
        for (int c = 0; c < 4; c++) {
            Check.same("so many wait", x.master(0, 3), c);
            x.ask(c, GET, c, 0);
            Check.same("not as long as the EXEC is on its way", x.master(0, 3), c);
            Check.deliver(x, Check.EXEC, c);
        }
        Check.same("four", x.master(0, 3), 4);
        Check.loseAll(x);
        Check.same("also when no letter is on its way", x.master(0, 3), 4);
        x.sync(0);
        Check.syncAndAck(x, 0);
        Check.same("none", x.master(0, 3), 0);
    }

    // "of WAYS places (1 to 4)"
    private static void aSetHasWaysPlaces() {
        for (int ways = 1; ways <= 4; ways++) {
            OneTrip x = new OneTrip(1, 1, ways, 10);
            for (int key = 0; key < ways; key++) {
                x.ask(0, PUT, key, 1);
                x.deliver(1);
                Check.same("key " + key + " at " + ways + " ways", x.letter(1, 0), Check.ACCEPT);
                Check.deliverAll(x);
                Check.same("so many held", x.witness(0, 2), key + 1);
            }
            x.ask(0, PUT, ways, 1);
            x.deliver(1);
            Check.same("one key more at " + ways + " ways", x.letter(1, 0), Check.REJECT);
            Check.same("held as before", x.witness(0, 3), (1 << ways) - 1);
        }
    }

    // "it has SETS sets (1 to 4)"; "one of KEY k stands in set k % SETS"
    private static void aKeyStandsInItsSet() {
        for (int sets = 1; sets <= 4; sets++) {
            for (int first = 0; first < 16; first++) {
                for (int second = 0; second < 16; second++) {
                    OneTrip x = new OneTrip(1, sets, 1, 10);
                    x.ask(0, PUT, first, 1);
                    x.deliver(1);
                    Check.same("the first one", x.letter(1, 0), Check.ACCEPT);
                    x.ask(1, PUT, second, 1);
                    x.deliver(3);
                    boolean free = first % sets != second % sets;
                    Check.same("key " + second + " beside " + first + " in " + sets + " sets",
                            x.letter(3, 0), free ? Check.ACCEPT : Check.REJECT);
                    Check.same("their keys", x.witness(0, 3),
                            free ? 1 << first | 1 << second : 1 << first);
                }
            }
        }
    }

    // "At first: EPOCH 0, its MASTER lives, all LOGS are empty, BACKUPS and WITNESSES have EPOCH
    // 0, no RECORDS; each CLIENT knows EPOCH 0 and has nothing asked for."
    private static void atFirstThereIsNothing() {
        OneTrip x = new OneTrip(3, 4, 4, 10);
        Check.master("it lives, an empty LOG", x, 0, 1, 0, 0, 0, 0);
        for (int i = 0; i < 3; i++) {
            Check.backup("an empty LOG", x, i, 0, 0);
            Check.witness("no RECORDS, not FROZEN", x, i, 0, 0, 0, 0);
        }
        for (int c = 0; c < 4; c++) {
            Check.client("nothing asked for", x, c, 0, 1, 0, 0, 0, 0, 0);
        }
        Check.same("one epoch", x.count(1), 1);
        Check.same("no letter", x.count(0), 0);
        Check.same("audit", x.audit(), 0);
    }
}
