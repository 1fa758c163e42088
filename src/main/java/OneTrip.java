import java.util.ArrayList;
import java.util.Arrays;

/**
 * A store of keys that is kept by a master, by backups that lag behind and by witnesses that
 * remember updates as long as they commute, so that one round trip is enough. Masters, backups,
 * witnesses and clients speak by letters alone, which the caller delivers, loses and doubles.
 */
public final class OneTrip {
    public static final int NONE = -1;

    private static final int CLIENTS = 4;
    private static final int KEYS = 16;
    private static final int MOST_FAULTS = 3;
    private static final int MOST_SETS = 4;
    private static final int MOST_WAYS = 4;
    private static final int MOST_BATCH = 10;
    private static final int MOST_EPOCHS = 12;
    private static final int MOST_OPERATIONS = 600;
    private static final int MOST_LETTERS = 250;

    private static final int PUT = 0;
    private static final int GET = 2;

    private static final int EXEC = 0;
    private static final int RECORD = 1;
    private static final int ANSWER = 2;
    private static final int ACCEPT = 3;
    private static final int REJECT = 4;
    private static final int SYNCNOW = 5;
    private static final int SYNC = 6;
    private static final int ACK = 7;
    private static final int GC = 8;
    private static final int RESET = 9;

    private final int sets;
    private final int ways;
    private final int batch;
    private final Row row;
    private final Client[] clients;
    private final Backup[] backups;
    private final Witness[] witnesses;
    private final ArrayList<Master> masters;
    private final ArrayList<Operation> operations;
    private int finished;
    /** Counts the askings and the finishings, so that audit() can tell which came first. */
    private int moment;

    public OneTrip(int f, int sets, int ways, int batch) {
        int faults = nearest(f, MOST_FAULTS);
        this.sets = nearest(sets, MOST_SETS);
        this.ways = nearest(ways, MOST_WAYS);
        this.batch = nearest(batch, MOST_BATCH);
        Row letters = new Row();
        row = letters;
        clients = new Client[CLIENTS];
        for (int i = 0; i < clients.length; i++) {
            clients[i] = new Client();
        }
        backups = new Backup[faults];
        witnesses = new Witness[faults];
        for (int i = 0; i < faults; i++) {
            backups[i] = new Backup(i);
            witnesses[i] = new Witness(i, this.sets, this.ways);
        }
        masters = new ArrayList<>();
        masters.add(new Master(0, faults, this.batch, letters));
        operations = new ArrayList<>();
    }

    public int ask(int client, int what, int key, int v)
            throws IndexOutOfBoundsException, IllegalArgumentException {
        checkIndex(client, clients.length);
        checkIndex(key, KEYS);
        checkWhat(what, GET);
        Client asker = clients[client];
        if (asker.isBusy() || operations.size() >= MOST_OPERATIONS) {
            return NONE;
        }
        Operation op = new Operation(client, asker.latestNumber() + 1, what, key, v);
        moment++;
        op.askedAt = moment;
        operations.add(op);
        asker.latest = op;
        sendRequest(asker, op);
        return op.number;
    }

    public boolean retry(int client) throws IndexOutOfBoundsException {
        checkIndex(client, clients.length);
        return tryAgain(clients[client]);
    }

    public int learn(int client) throws IndexOutOfBoundsException {
        checkIndex(client, clients.length);
        Client learner = clients[client];
        int latest = masters.size() - 1;
        if (learner.epoch != latest) {
            learner.epoch = latest;
            tryAgain(learner);
        }
        return latest;
    }

    public int deliver(int k) throws IndexOutOfBoundsException {
        checkIndex(k, row.size());
        Letter taken = row.take(k);
        if (taken == null) {
            return row.size();
        }
        switch (taken.kind) {
            case EXEC:
            case SYNCNOW:
            case ACK:
                readAtMaster(taken);
                break;
            case ANSWER:
            case ACCEPT:
            case REJECT:
                readAtClient(taken);
                break;
            case SYNC:
                readAtBackup(taken);
                break;
            default:
                readAtWitness(taken);
                break;
        }
        return row.size();
    }

    public int lose(int k) throws IndexOutOfBoundsException {
        checkIndex(k, row.size());
        row.take(k);
        return row.size();
    }

    public int twice(int k) throws IndexOutOfBoundsException {
        checkIndex(k, row.size());
        Letter doubled = row.at(k);
        if (doubled != null) {
            row.send(doubled);
        }
        return row.size();
    }

    public boolean sync(int epoch) throws IndexOutOfBoundsException {
        checkIndex(epoch, masters.size());
        Master master = masters.get(epoch);
        if (!master.lives) {
            return false;
        }
        master.sendSyncs();
        if (master.settled) {
            master.sendResets();
        }
        return true;
    }

    public boolean crash(int epoch) throws IndexOutOfBoundsException {
        checkIndex(epoch, masters.size());
        return masters.get(epoch).fall();
    }

    public int decide(int backup, int witness)
            throws IndexOutOfBoundsException, UnsupportedOperationException {
        checkIndex(backup, backups.length);
        checkIndex(witness, witnesses.length);
        if (masters.size() >= MOST_EPOCHS) {
            throw new UnsupportedOperationException();
        }
        Backup base = backups[backup];
        Witness rest = witnesses[witness];
        int epoch = masters.size();
        Master risen = new Master(epoch, backups.length, batch, row);
        Master former = masterOf(base.epoch);
        if (former != null) {
            risen.takeLog(former, base.has);
        }
        risen.takeRecords(rest);
        risen.began = risen.log.size();
        masters.add(risen);
        base.epoch = epoch;
        rest.epoch = epoch;
        rest.frozen = true;
        return epoch;
    }

    public int letter(int k, int what) throws IndexOutOfBoundsException, IllegalArgumentException {
        checkIndex(k, row.size());
        checkWhat(what, 3);
        Letter shown = row.at(k);
        if (shown == null) {
            return 0;
        }
        switch (what) {
            case 0:
                return shown.kind;
            case 1:
                return shown.epoch;
            case 2:
                return shown.who;
            default:
                return shown.number;
        }
    }

    public int client(int client, int what)
            throws IndexOutOfBoundsException, IllegalArgumentException {
        checkIndex(client, clients.length);
        checkWhat(what, 6);
        Client shown = clients[client];
        switch (what) {
            case 0:
                return shown.latestNumber();
            case 1:
                return asBit(!shown.isBusy());
            case 2:
                return shown.told();
            case 3:
                return shown.epoch;
            case 4:
                return Integer.bitCount(shown.accepts);
            case 5:
                return asBit(shown.answered && shown.isBusy());
            default:
                return shown.finishedByAccepts;
        }
    }

    public int master(int epoch, int what)
            throws IndexOutOfBoundsException, IllegalArgumentException {
        checkIndex(epoch, masters.size());
        checkWhat(what, 4);
        Master shown = masters.get(epoch);
        switch (what) {
            case 0:
                return asBit(shown.lives);
            case 1:
                return shown.log.size();
            case 2:
                return shown.synced;
            case 3:
                return shown.gets.size();
            default:
                return shown.began;
        }
    }

    public int value(int epoch, int key) throws IndexOutOfBoundsException {
        checkIndex(epoch, masters.size());
        checkIndex(key, KEYS);
        return masters.get(epoch).valueOf(key);
    }

    public int backup(int backup, int what)
            throws IndexOutOfBoundsException, IllegalArgumentException {
        checkIndex(backup, backups.length);
        checkWhat(what, 1);
        Backup shown = backups[backup];
        return what == 0 ? shown.epoch : shown.has;
    }

    public int witness(int witness, int what)
            throws IndexOutOfBoundsException, IllegalArgumentException {
        checkIndex(witness, witnesses.length);
        checkWhat(what, 3);
        Witness shown = witnesses[witness];
        switch (what) {
            case 0:
                return shown.epoch;
            case 1:
                return asBit(shown.frozen);
            case 2:
                return shown.held();
            default:
                return shown.keysHeld();
        }
    }

    public int audit() {
        Master latest = masterOf(masters.size() - 1);
        if (latest == null || !latest.lives) {
            return 0;
        }
        return asBit(!Audit.passes(latest.log, operations));
    }

    public int count(int what) {
        switch (what) {
            case 0:
                return row.size();
            case 1:
                return masters.size();
            case 2:
                return operations.size();
            case 3:
                return finished;
            case 4:
                return row.overflowed;
            case 5:
                return backups.length;
            case 6:
                return sets;
            case 7:
                return ways;
            case 8:
                return batch;
            default:
                return NONE;
        }
    }

    private static int nearest(int number, int most) {
        return Math.max(1, Math.min(most, number));
    }

    private static int asBit(boolean yes) {
        return yes ? 1 : 0;
    }

    private static void checkIndex(int index, int size) {
        if (index < 0 || index >= size) {
            throw new IndexOutOfBoundsException();
        }
    }

    private static void checkWhat(int what, int most) {
        if (what < 0 || what > most) {
            throw new IllegalArgumentException();
        }
    }

    private Master masterOf(int epoch) {
        return epoch >= 0 && epoch < masters.size() ? masters.get(epoch) : null;
    }

    private Master livingMasterOf(int epoch) {
        Master master = masterOf(epoch);
        return master != null && master.lives ? master : null;
    }

    private boolean tryAgain(Client asker) {
        Operation op = asker.latest;
        if (op == null || op.isDone()) {
            return false;
        }
        sendRequest(asker, op);
        return true;
    }

    private void sendRequest(Client asker, Operation op) {
        asker.forgetReplies();
        row.send(Letter.toMaster(EXEC, asker.epoch, op));
        if (op.isUpdate()) {
            for (int w = 0; w < witnesses.length; w++) {
                row.send(Letter.toRecord(asker.epoch, w, op));
            }
        }
    }

    private void readAtMaster(Letter taken) {
        Master master = livingMasterOf(taken.epoch);
        if (master == null) {
            return;
        }
        if (taken.kind == ACK) {
            master.readAck(taken.who, taken.number, taken.extra);
        } else if (taken.op != null) {
            if (taken.kind == EXEC) {
                master.readExec(taken.op);
            } else {
                master.readSyncNow(taken.op);
            }
        }
    }

    private void readAtBackup(Letter taken) {
        if (taken.who < 0 || taken.who >= backups.length) {
            return;
        }
        Backup reader = backups[taken.who];
        if (reader.readSync(taken.epoch, taken.number)) {
            row.send(Letter.toAck(taken.epoch, reader, taken.extra));
        }
    }

    private void readAtWitness(Letter taken) {
        if (taken.who < 0 || taken.who >= witnesses.length) {
            return;
        }
        Witness reader = witnesses[taken.who];
        if (taken.kind == RESET) {
            reader.readReset(taken.epoch);
        } else if (taken.kind == GC) {
            Master sender = masterOf(taken.epoch);
            if (sender != null && reader.epoch == taken.epoch) {
                reader.drop(sender, taken.number);
            }
        } else if (taken.op != null) {
            int reply = reader.readRecord(taken.epoch, taken.op) ? ACCEPT : REJECT;
            row.send(Letter.toClient(reply, taken.epoch, taken.op, reader.id));
        }
    }

    private void readAtClient(Letter taken) {
        if (taken.who < 0 || taken.who >= clients.length) {
            return;
        }
        Client reader = clients[taken.who];
        Operation op = taken.op;
        if (op == null || taken.epoch != reader.epoch || op != reader.latest || op.isDone()) {
            return;
        }
        if (taken.kind == REJECT) {
            row.send(Letter.toMaster(SYNCNOW, taken.epoch, op));
        } else if (taken.kind == ACCEPT) {
            reader.accepts |= 1 << taken.extra;
            finishIfAccepted(reader, op);
        } else {
            readAnswer(reader, op, taken);
        }
    }

    private void readAnswer(Client reader, Operation op, Letter taken) {
        reader.answered = true;
        reader.answer = taken.extra;
        if (taken.safe) {
            finish(reader, op);
        } else {
            finishIfAccepted(reader, op);
        }
    }

    private void finishIfAccepted(Client reader, Operation op) {
        boolean byAll = Integer.bitCount(reader.accepts) == witnesses.length;
        if (reader.answered && byAll && op.isUpdate()) {
            finish(reader, op);
            reader.finishedByAccepts++;
        }
    }

    private void finish(Client reader, Operation op) {
        moment++;
        op.doneAt = moment;
        op.told = reader.answer;
        finished++;
    }

    /** What a client asks for; the same one stands in letters, logs and records. */
    private static final class Operation {
        private final int asker;
        private final int number;
        private final int what;
        private final int key;
        private final int v;
        private int askedAt;
        /** 0 as long as it is not done. */
        private int doneAt;
        private int told;

        private Operation(int asker, int number, int what, int key, int v) {
            this.asker = asker;
            this.number = number;
            this.what = what;
            this.key = key;
            this.v = v;
        }

        private boolean isUpdate() {
            return what != GET;
        }

        private boolean isDone() {
            return doneAt != 0;
        }

        private boolean isDoneBefore(Operation other) {
            return doneAt != 0 && doneAt < other.askedAt;
        }

        private int valueAfter(int before) {
            return what == PUT ? v : before + v;
        }

        private int answerAfter(int before) {
            return what == PUT ? before : before + v;
        }

        /** The order in which a new master takes records: by clients, then by numbers. */
        private boolean comesBehind(Operation other) {
            return asker > other.asker || asker == other.asker && number > other.number;
        }
    }

    /** Never changed once it is made, so that a doubled letter can be the same object. */
    private static final class Letter {
        private final int kind;
        private final int epoch;
        /** The number of its reader or, of a letter to a master, of its sender. */
        private final int who;
        private final Operation op;
        private final int number;
        /** Of ANSWER the answer, of SYNC and ACK the count of syncs, of ACCEPT the witness. */
        private final int extra;
        private final boolean safe;

        private Letter(int kind, int epoch, int who, Operation op, int number, int extra,
                boolean safe) {
            this.kind = kind;
            this.epoch = epoch;
            this.who = who;
            this.op = op;
            this.number = number;
            this.extra = extra;
            this.safe = safe;
        }

        private static Letter toMaster(int kind, int epoch, Operation op) {
            return new Letter(kind, epoch, op.asker, op, op.number, 0, false);
        }

        private static Letter toRecord(int epoch, int witness, Operation op) {
            return new Letter(RECORD, epoch, witness, op, op.number, 0, false);
        }

        private static Letter toClient(int kind, int epoch, Operation op, int witness) {
            return new Letter(kind, epoch, op.asker, op, op.number, witness, false);
        }

        private static Letter toAnswer(int epoch, Operation op, int answer, boolean safe) {
            return new Letter(ANSWER, epoch, op.asker, op, op.number, answer, safe);
        }

        private static Letter toSync(int epoch, int backup, int first, int syncs) {
            return new Letter(SYNC, epoch, backup, null, first, syncs, false);
        }

        private static Letter toAck(int epoch, Backup sender, int syncs) {
            return new Letter(ACK, epoch, sender.id, null, sender.has, syncs, false);
        }

        private static Letter toWitness(int kind, int epoch, int witness, int first) {
            return new Letter(kind, epoch, witness, null, first, 0, false);
        }
    }

    /** The letters on their way, in the order in which they were sent. */
    private static final class Row {
        private final ArrayList<Letter> letters;
        private int overflowed;

        private Row() {
            letters = new ArrayList<>();
        }

        private int size() {
            return letters.size();
        }

        private Letter at(int k) {
            return k >= 0 && k < letters.size() ? letters.get(k) : null;
        }

        private Letter take(int k) {
            return k >= 0 && k < letters.size() ? letters.remove(k) : null;
        }

        private void send(Letter sent) {
            if (letters.size() >= MOST_LETTERS) {
                overflowed++;
            } else {
                letters.add(sent);
            }
        }
    }

    private static final class Client {
        private int epoch;
        private Operation latest;
        /** A bit for each witness that has accepted the latest operation. */
        private int accepts;
        private boolean answered;
        private int answer;
        private int finishedByAccepts;

        private boolean isBusy() {
            return latest != null && !latest.isDone();
        }

        private int latestNumber() {
            return latest == null ? 0 : latest.number;
        }

        private int told() {
            return latest == null ? 0 : latest.told;
        }

        private void forgetReplies() {
            accepts = 0;
            answered = false;
            answer = 0;
        }
    }

    /**
     * Its log is always the first ones of the log of its epoch's master: logs only grow at their
     * end, and a master that rises from a backup begins with that backup's log.
     */
    private static final class Backup {
        private final int id;
        private int epoch;
        private int has;

        private Backup(int id) {
            this.id = id;
        }

        /** Whether the letter is to be acknowledged. */
        private boolean readSync(int ofEpoch, int first) {
            if (ofEpoch < epoch) {
                return false;
            }
            if (ofEpoch > epoch) {
                epoch = ofEpoch;
                has = first;
            } else {
                has = Math.max(has, first);
            }
            return true;
        }
    }

    private static final class Witness {
        private final int id;
        private final int sets;
        private final int ways;
        private final Operation[] places;
        private int epoch;
        private boolean frozen;

        private Witness(int id, int sets, int ways) {
            this.id = id;
            this.sets = sets;
            this.ways = ways;
            places = new Operation[Math.max(0, sets * ways)];
        }

        /** Whether it accepts. */
        private boolean readRecord(int ofEpoch, Operation op) {
            if (ofEpoch != epoch || frozen) {
                return false;
            }
            int free = NONE;
            int first = sets > 0 ? op.key % sets * ways : 0;
            for (int i = first; i >= 0 && i < first + ways && i < places.length; i++) {
                Operation held = places[i];
                if (held == op) {
                    return true;
                }
                if (held == null) {
                    free = i;
                } else if (held.key == op.key) {
                    return false;
                }
            }
            if (free < 0 || free >= places.length) {
                return false;
            }
            places[free] = op;
            return true;
        }

        private void readReset(int ofEpoch) {
            if (epoch < ofEpoch || epoch == ofEpoch && frozen) {
                epoch = ofEpoch;
                frozen = false;
                for (int i = 0; i < places.length; i++) {
                    places[i] = null;
                }
            }
        }

        /** It drops what stands among the first ones of the master's log. */
        private void drop(Master master, int first) {
            for (int i = 0; i < places.length; i++) {
                if (places[i] != null) {
                    int place = master.placeOf(places[i]);
                    if (place >= 0 && place < first) {
                        places[i] = null;
                    }
                }
            }
        }

        /** The next one in a new master's order, null behind the last; null asks for the first. */
        private Operation recordBehind(Operation last) {
            Operation next = null;
            for (int i = 0; i < places.length; i++) {
                Operation held = places[i];
                if (held != null && (last == null || held.comesBehind(last))
                        && (next == null || next.comesBehind(held))) {
                    next = held;
                }
            }
            return next;
        }

        private int held() {
            int many = 0;
            for (int i = 0; i < places.length; i++) {
                if (places[i] != null) {
                    many++;
                }
            }
            return many;
        }

        private int keysHeld() {
            int bits = 0;
            for (int i = 0; i < places.length; i++) {
                if (places[i] != null) {
                    bits |= 1 << places[i].key;
                }
            }
            return bits;
        }
    }

    /** An update in a master's log. */
    private static final class Entry {
        private final Operation op;
        private final int answer;
        private final boolean late;
        private boolean wantedNow;

        private Entry(Operation op, int answer, boolean late) {
            this.op = op;
            this.answer = answer;
            this.late = late;
        }
    }

    /** A get that waits at a master till the backups confirm that this is still the master. */
    private static final class WaitingGet {
        private final Operation op;
        private final int place;
        private final int valueThere;
        private final int syncs;
        /** A bit for each backup that has confirmed it. */
        private int confirmed;

        private WaitingGet(Operation op, int place, int valueThere, int syncs) {
            this.op = op;
            this.place = place;
            this.valueThere = valueThere;
            this.syncs = syncs;
        }
    }

    private static final class Master {
        private final int epoch;
        private final int batch;
        private final Row row;
        private final ArrayList<Entry> log;
        private final ArrayList<WaitingGet> gets;
        private final int[] values;
        /** How many of the log each backup told that it has; NONE: it told nothing. */
        private final int[] told;
        private boolean lives;
        private boolean settled;
        private int began;
        private int synced;
        private int syncs;

        private Master(int epoch, int faults, int batch, Row row) {
            this.epoch = epoch;
            this.batch = batch;
            this.row = row;
            log = new ArrayList<>();
            gets = new ArrayList<>();
            values = new int[KEYS];
            told = new int[Math.max(0, faults)];
            Arrays.fill(told, NONE);
            lives = true;
        }

        private int valueOf(int key) {
            return key >= 0 && key < values.length ? values[key] : 0;
        }

        /** Whether it lived. */
        private boolean fall() {
            boolean lived = lives;
            lives = false;
            gets.clear();
            return lived;
        }

        private void takeLog(Master former, int first) {
            for (int i = 0; i < first && i < former.log.size(); i++) {
                append(former.log.get(i).op, false);
            }
        }

        private void takeRecords(Witness rest) {
            Operation op = rest.recordBehind(null);
            for (int i = 0; i < rest.places.length && op != null; i++) {
                if (placeOf(op) == NONE && !hasLaterOneThan(op)) {
                    append(op, false);
                }
                op = rest.recordBehind(op);
            }
        }

        private Entry append(Operation op, boolean late) {
            int before = valueOf(op.key);
            Entry entry = new Entry(op, op.answerAfter(before), late);
            log.add(entry);
            if (op.key >= 0 && op.key < values.length) {
                values[op.key] = op.valueAfter(before);
            }
            return entry;
        }

        private int placeOf(Operation op) {
            for (int i = 0; i < log.size(); i++) {
                if (log.get(i).op == op) {
                    return i;
                }
            }
            return NONE;
        }

        private boolean hasLaterOneThan(Operation op) {
            for (int i = 0; i < log.size(); i++) {
                Operation logged = log.get(i).op;
                if (logged.asker == op.asker && logged.number > op.number) {
                    return true;
                }
            }
            return false;
        }

        private boolean hasUnsyncedOf(int key) {
            for (int i = synced; i >= 0 && i < log.size(); i++) {
                if (log.get(i).op.key == key) {
                    return true;
                }
            }
            return false;
        }

        private void readExec(Operation op) {
            int place = placeOf(op);
            if (place >= 0) {
                answerAgain(place);
            } else if (!hasLaterOneThan(op)) {
                if (op.isUpdate()) {
                    execute(op);
                } else {
                    letWait(op);
                }
            }
        }

        private void answerAgain(int place) {
            if (place < 0 || place >= log.size()) {
                return;
            }
            Entry entry = log.get(place);
            if (place < synced) {
                sendAnswer(entry, true);
            } else if (entry.late) {
                sendSyncs();
            } else {
                sendAnswer(entry, false);
            }
        }

        private void execute(Operation op) {
            boolean late = hasUnsyncedOf(op.key);
            Entry entry = append(op, late);
            if (!late) {
                sendAnswer(entry, false);
            }
            if (late || log.size() - synced >= batch) {
                sendSyncs();
            }
        }

        private void letWait(Operation op) {
            sendSyncs();
            for (int i = 0; i < gets.size(); i++) {
                if (gets.get(i).op == op) {
                    return;
                }
            }
            gets.add(new WaitingGet(op, log.size(), valueOf(op.key), syncs));
        }

        private void readSyncNow(Operation op) {
            int place = placeOf(op);
            if (place < 0 || place >= log.size()) {
                return;
            }
            Entry entry = log.get(place);
            if (place < synced) {
                sendAnswer(entry, true);
            } else {
                entry.wantedNow = true;
                sendSyncs();
            }
        }

        private void readAck(int backup, int has, int ofSyncs) {
            if (backup < 0 || backup >= told.length) {
                return;
            }
            told[backup] = Math.max(told[backup], has);
            confirmGets(backup, ofSyncs);
            int before = synced;
            int least = leastTold();
            synced = Math.max(0, least);
            if (synced > before) {
                answerAwaited(before);
            }
            if (!settled && least >= began) {
                settled = true;
                sendResets();
            }
            if (synced > before) {
                sendGcs();
            }
            answerGets();
        }

        /** NONE as long as a backup told nothing. */
        private int leastTold() {
            int least = log.size();
            for (int i = 0; i < told.length; i++) {
                least = Math.min(least, told[i]);
            }
            return least;
        }

        private void confirmGets(int backup, int ofSyncs) {
            for (int i = 0; i < gets.size(); i++) {
                WaitingGet waiting = gets.get(i);
                if (waiting.syncs <= ofSyncs) {
                    waiting.confirmed |= 1 << backup;
                }
            }
        }

        private void answerAwaited(int from) {
            for (int i = Math.max(0, from); i < synced && i < log.size(); i++) {
                Entry entry = log.get(i);
                if (entry.late || entry.wantedNow) {
                    sendAnswer(entry, true);
                }
            }
        }

        private void answerGets() {
            for (int i = 0; i < gets.size(); i++) {
                WaitingGet waiting = gets.get(i);
                if (isReady(waiting)) {
                    row.send(Letter.toAnswer(epoch, waiting.op, waiting.valueThere, true));
                }
            }
            for (int i = gets.size() - 1; i >= 0; i--) {
                if (isReady(gets.get(i))) {
                    gets.remove(i);
                }
            }
        }

        private boolean isReady(WaitingGet waiting) {
            boolean byAll = Integer.bitCount(waiting.confirmed) == told.length;
            return byAll && waiting.place <= synced;
        }

        private void sendAnswer(Entry entry, boolean safe) {
            row.send(Letter.toAnswer(epoch, entry.op, entry.answer, safe));
        }

        private void sendSyncs() {
            syncs++;
            for (int b = 0; b < told.length; b++) {
                row.send(Letter.toSync(epoch, b, log.size(), syncs));
            }
        }

        private void sendGcs() {
            for (int w = 0; w < told.length; w++) {
                row.send(Letter.toWitness(GC, epoch, w, synced));
            }
        }

        private void sendResets() {
            if (epoch == 0) {
                return;
            }
            for (int w = 0; w < told.length; w++) {
                row.send(Letter.toWitness(RESET, epoch, w, 0));
            }
        }
    }

    /** What audit() asks of the log of the latest master. */
    private static final class Audit {
        private static boolean passes(ArrayList<Entry> log, ArrayList<Operation> operations) {
            if (!isInOrder(log)) {
                return false;
            }
            for (int i = 0; i < operations.size(); i++) {
                Operation op = operations.get(i);
                if (op.isDone() && !(op.isUpdate() ? standsOnce(log, op) : fits(log, op))) {
                    return false;
                }
            }
            return true;
        }

        private static boolean standsOnce(ArrayList<Entry> log, Operation op) {
            int times = 0;
            for (int i = 0; i < log.size(); i++) {
                Entry entry = log.get(i);
                if (entry.op == op) {
                    times++;
                    if (entry.answer != op.told) {
                        return false;
                    }
                }
            }
            return times == 1;
        }

        /** Of two updates of one key, one done before the other was asked for stands ahead. */
        private static boolean isInOrder(ArrayList<Entry> log) {
            for (int i = 0; i < log.size(); i++) {
                Operation ahead = log.get(i).op;
                for (int j = i + 1; j < log.size(); j++) {
                    Operation behind = log.get(j).op;
                    if (behind.key == ahead.key && behind.isDoneBefore(ahead)) {
                        return false;
                    }
                }
            }
            return true;
        }

        /** Whether the get told what its key has at a point of the log where it may stand. */
        private static boolean fits(ArrayList<Entry> log, Operation get) {
            int least = 0;
            int most = log.size();
            for (int i = log.size() - 1; i >= 0; i--) {
                Operation op = log.get(i).op;
                if (op.key == get.key && op.isDoneBefore(get)) {
                    least = Math.max(least, i + 1);
                }
                if (op.key == get.key && get.isDoneBefore(op)) {
                    most = i;
                }
            }
            int value = 0;
            for (int first = 0; first <= most; first++) {
                if (first >= least && value == get.told) {
                    return true;
                }
                if (first < log.size() && log.get(first).op.key == get.key) {
                    value = log.get(first).op.valueAfter(value);
                }
            }
            return false;
        }
    }
}
