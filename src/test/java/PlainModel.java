import java.util.ArrayList;
import java.util.Comparator;
import java.util.HashMap;
import java.util.HashSet;
import java.util.LinkedHashMap;
import java.util.List;
import java.util.Map;
import java.util.Set;
import java.util.TreeMap;

/**
 * The document once more, written apart from OneTrip: logs are copied whole, values and answers
 * are worked out anew each time, and audit() looks through the history of what happened.
 */
final class PlainModel {
    static final String[] KINDS = {"EXEC", "RECORD", "ANSWER", "ACCEPT", "REJECT", "SYNCNOW",
        "SYNC", "ACK", "GC", "RESET"};

    record Op(int client, int number, int what, int key, int v) {
        boolean update() {
            return what < 2;
        }
    }

    /** shown: what letter(k, 3) tells. */
    record Mail(String kind, int epoch, int who, int shown, Op op, int extra, boolean safe,
            List<Op> log) { }

    record Event(boolean asked, Op op, int told) { }

    static final class Head {
        boolean lives = true;
        boolean settled;
        int began;
        int syncs;
        List<Op> log = new ArrayList<>();
        Set<Op> late = new HashSet<>();
        Set<Op> now = new HashSet<>();
        Map<Integer, Integer> told = new HashMap<>();
        /** Place, count of the sync; then the backups that confirmed. */
        Map<Op, List<Integer>> gets = new LinkedHashMap<>();
    }

    static final class Copy {
        int epoch;
        List<Op> log = new ArrayList<>();
    }

    static final class Memory {
        int epoch;
        boolean frozen;
        List<Op> records = new ArrayList<>();
    }

    static final class Person {
        int epoch;
        Op op;
        boolean done = true;
        Integer answer;
        int told;
        Set<Integer> accepts = new HashSet<>();
        int fast;
    }

    final int f;
    final int sets;
    final int ways;
    final int batch;
    final List<Mail> row = new ArrayList<>();
    final List<Head> heads = new ArrayList<>();
    final List<Copy> copies = new ArrayList<>();
    final List<Memory> memories = new ArrayList<>();
    final List<Person> persons = new ArrayList<>();
    final List<Event> history = new ArrayList<>();
    int overflowed;

    PlainModel(int f, int sets, int ways, int batch) {
        this.f = f < 1 ? 1 : f > 3 ? 3 : f;
        this.sets = sets < 1 ? 1 : sets > 4 ? 4 : sets;
        this.ways = ways < 1 ? 1 : ways > 4 ? 4 : ways;
        this.batch = batch < 1 ? 1 : batch > 10 ? 10 : batch;
        heads.add(new Head());
        for (int i = 0; i < this.f; i++) {
            copies.add(new Copy());
            memories.add(new Memory());
        }
        for (int i = 0; i < 4; i++) {
            persons.add(new Person());
        }
    }

    void post(String kind, int epoch, int who, int shown, Op op, int extra, boolean safe,
            List<Op> log) {
        post(new Mail(kind, epoch, who, shown, op, extra, safe, log));
    }

    void post(Mail mail) {
        if (row.size() == 250) {
            overflowed++;
        } else {
            row.add(mail);
        }
    }

    static int[] run(List<Op> log, int key, int until) {
        int value = 0;
        int answer = 0;
        for (Op op : log.subList(0, until)) {
            if (op.key == key) {
                answer = op.what == 0 ? value : value + op.v;
                value = op.what == 0 ? op.v : value + op.v;
            }
        }
        return new int[] {value, answer};
    }

    static int answerAt(List<Op> log, int i) {
        return run(log, log.get(i).key, i + 1)[1];
    }

    int ask(int c, int what, int key, int v) {
        if (c < 0 || c > 3 || key < 0 || key > 15) {
            throw new IndexOutOfBoundsException();
        }
        if (what < 0 || what > 2) {
            throw new IllegalArgumentException();
        }
        Person p = persons.get(c);
        if (!p.done) {
            return -1;
        }
        p.op = new Op(c, p.op == null ? 1 : p.op.number + 1, what, key, v);
        p.done = false;
        p.told = 0;
        history.add(new Event(true, p.op, 0));
        go(c);
        return p.op.number;
    }

    void go(int c) {
        Person p = persons.get(c);
        p.accepts.clear();
        p.answer = null;
        post("EXEC", p.epoch, c, p.op.number, p.op, 0, false, null);
        for (int w = 0; w < f && p.op.update(); w++) {
            post("RECORD", p.epoch, w, p.op.number, p.op, 0, false, null);
        }
    }

    boolean retry(int c) {
        if (c < 0 || c > 3) {
            throw new IndexOutOfBoundsException();
        }
        if (persons.get(c).done) {
            return false;
        }
        go(c);
        return true;
    }

    int learn(int c) {
        if (c < 0 || c > 3) {
            throw new IndexOutOfBoundsException();
        }
        Person p = persons.get(c);
        boolean other = p.epoch != heads.size() - 1;
        p.epoch = heads.size() - 1;
        if (other && !p.done) {
            go(c);
        }
        return p.epoch;
    }

    Mail mail(int k) {
        if (k < 0 || k >= row.size()) {
            throw new IndexOutOfBoundsException();
        }
        return row.get(k);
    }

    int lose(int k) {
        mail(k);
        row.remove(k);
        return row.size();
    }

    int twice(int k) {
        post(mail(k));
        return row.size();
    }

    int deliver(int k) {
        Mail m = mail(k);
        row.remove(k);
        Head h = heads.get(m.epoch);
        switch (m.kind) {
            case "EXEC" -> { if (h.lives) { exec(h, m); } }
            case "SYNCNOW" -> { if (h.lives) { syncNow(h, m); } }
            case "ACK" -> { if (h.lives) { ack(h, m); } }
            case "SYNC" -> syncAt(m);
            case "RECORD" -> recordAt(m);
            case "GC" -> gcAt(m);
            case "RESET" -> resetAt(m);
            default -> clientReads(m);
        }
        return row.size();
    }

    void syncs(int e) {
        Head h = heads.get(e);
        h.syncs++;
        for (int b = 0; b < f; b++) {
            post("SYNC", e, b, h.log.size(), null, h.syncs, false, List.copyOf(h.log));
        }
    }

    void answer(int e, int i, boolean safe) {
        Head h = heads.get(e);
        Op op = h.log.get(i);
        post("ANSWER", e, op.client, op.number, op, answerAt(h.log, i), safe, null);
    }

    int synced(Head h) {
        int least = h.log.size();
        for (int b = 0; b < f; b++) {
            least = Math.min(least, h.told.getOrDefault(b, 0));
        }
        return least;
    }

    void exec(Head h, Mail m) {
        Op op = m.op;
        int at = h.log.indexOf(op);
        if (at >= 0) {
            if (at < synced(h)) {
                answer(m.epoch, at, true);
            } else if (h.late.contains(op)) {
                syncs(m.epoch);
            } else {
                answer(m.epoch, at, false);
            }
            return;
        }
        if (h.log.stream().anyMatch(o -> o.client == op.client && o.number > op.number)) {
            return;
        }
        if (op.update()) {
            boolean late = h.log.subList(synced(h), h.log.size()).stream()
                    .anyMatch(o -> o.key == op.key);
            h.log.add(op);
            if (late) {
                h.late.add(op);
                syncs(m.epoch);
            } else {
                answer(m.epoch, h.log.size() - 1, false);
                if (h.log.size() - synced(h) >= batch) {
                    syncs(m.epoch);
                }
            }
        } else {
            if (!h.gets.containsKey(op)) {
                h.gets.put(op, new ArrayList<>(List.of(h.log.size(), h.syncs + 1)));
            }
            syncs(m.epoch);
        }
    }

    void syncNow(Head h, Mail m) {
        int at = h.log.indexOf(m.op);
        if (at < 0) {
            return;
        }
        if (at < synced(h)) {
            answer(m.epoch, at, true);
        } else {
            h.now.add(m.op);
            syncs(m.epoch);
        }
    }

    void ack(Head h, Mail m) {
        int before = synced(h);
        h.told.merge(m.who, m.shown, Math::max);
        for (List<Integer> get : h.gets.values()) {
            if (get.get(1) <= m.extra && !get.subList(2, get.size()).contains(m.who)) {
                get.add(m.who);
            }
        }
        int after = synced(h);
        for (int i = before; i < after; i++) {
            if (h.late.contains(h.log.get(i)) || h.now.contains(h.log.get(i))) {
                answer(m.epoch, i, true);
            }
        }
        if (!h.settled && h.told.size() == f && after >= h.began) {
            h.settled = true;
            resets(m.epoch);
        }
        for (int w = 0; w < f && after > before; w++) {
            post("GC", m.epoch, w, after, null, 0, false, null);
        }
        List<Op> answered = new ArrayList<>();
        h.gets.forEach((op, get) -> {
            if (get.size() == 2 + f && get.get(0) <= after) {
                int value = run(h.log, op.key, get.get(0))[0];
                post("ANSWER", m.epoch, op.client, op.number, op, value, true, null);
                answered.add(op);
            }
        });
        answered.forEach(h.gets::remove);
    }

    void resets(int e) {
        for (int w = 0; w < f && e > 0; w++) {
            post("RESET", e, w, 0, null, 0, false, null);
        }
    }

    void syncAt(Mail m) {
        Copy b = copies.get(m.who);
        if (m.epoch < b.epoch) {
            return;
        }
        if (m.epoch > b.epoch || m.log.size() > b.log.size()) {
            b.log = new ArrayList<>(m.log);
        }
        b.epoch = m.epoch;
        post("ACK", m.epoch, m.who, b.log.size(), null, m.extra, false, null);
    }

    void recordAt(Mail m) {
        Memory w = memories.get(m.who);
        boolean right = w.epoch == m.epoch && !w.frozen;
        boolean holds = w.records.contains(m.op);
        boolean commutes = w.records.stream().noneMatch(o -> o.key == m.op.key);
        boolean room = w.records.stream()
                .filter(o -> o.key % sets == m.op.key % sets).count() < ways;
        boolean accept = right && (holds || commutes && room);
        if (accept && !holds) {
            w.records.add(m.op);
        }
        post(accept ? "ACCEPT" : "REJECT", m.epoch, m.op.client, m.op.number, m.op, m.who, false,
                null);
    }

    void gcAt(Mail m) {
        Memory w = memories.get(m.who);
        if (w.epoch == m.epoch) {
            w.records.removeAll(heads.get(m.epoch).log.subList(0, m.shown));
        }
    }

    void resetAt(Mail m) {
        Memory w = memories.get(m.who);
        if (w.epoch < m.epoch || w.epoch == m.epoch && w.frozen) {
            w.epoch = m.epoch;
            w.frozen = false;
            w.records.clear();
        }
    }

    void clientReads(Mail m) {
        Person p = persons.get(m.op.client);
        if (m.epoch != p.epoch || !m.op.equals(p.op) || p.done) {
            return;
        }
        switch (m.kind) {
            case "REJECT" ->
                post("SYNCNOW", m.epoch, m.op.client, m.op.number, m.op, 0, false, null);
            case "ACCEPT" -> p.accepts.add(m.extra);
            default -> p.answer = m.extra;
        }
        boolean fast = m.op.update() && p.answer != null && p.accepts.size() == f;
        if (m.safe || fast) {
            p.done = true;
            p.told = p.answer;
            p.fast += m.safe ? 0 : 1;
            history.add(new Event(false, m.op, p.told));
        }
    }

    Head head(int e) {
        if (e < 0 || e >= heads.size()) {
            throw new IndexOutOfBoundsException();
        }
        return heads.get(e);
    }

    boolean sync(int e) {
        Head h = head(e);
        if (!h.lives) {
            return false;
        }
        syncs(e);
        if (h.settled) {
            resets(e);
        }
        return true;
    }

    boolean crash(int e) {
        Head h = head(e);
        boolean lived = h.lives;
        h.lives = false;
        return lived;
    }

    int decide(int b, int w) {
        if (b < 0 || b >= f || w < 0 || w >= f) {
            throw new IndexOutOfBoundsException();
        }
        if (heads.size() == 12) {
            throw new UnsupportedOperationException();
        }
        Head h = new Head();
        h.log.addAll(copies.get(b).log);
        List<Op> records = new ArrayList<>(memories.get(w).records);
        records.sort(Comparator.comparingInt(Op::client).thenComparingInt(Op::number));
        for (Op op : records) {
            if (h.log.stream().noneMatch(o -> o.client == op.client && o.number >= op.number)) {
                h.log.add(op);
            }
        }
        h.began = h.log.size();
        heads.add(h);
        int e = heads.size() - 1;
        copies.get(b).epoch = e;
        memories.get(w).epoch = e;
        memories.get(w).frozen = true;
        return e;
    }

    int audit() {
        Head h = heads.get(heads.size() - 1);
        if (!h.lives) {
            return 0;
        }
        Map<Op, Integer> asked = new HashMap<>();
        Map<Op, Integer> done = new TreeMap<>(
                Comparator.comparingInt(Op::client).thenComparingInt(Op::number));
        for (int t = 0; t < history.size(); t++) {
            (history.get(t).asked ? asked : done).put(history.get(t).op, t);
        }
        for (Op a : done.keySet()) {
            int told = history.get(done.get(a)).told;
            if (a.update() ? !standsRight(h, a, told, asked, done)
                    : !getStandsRight(h, a, told, asked, done)) {
                return 1;
            }
        }
        return 0;
    }

    private static boolean standsRight(Head h, Op a, int told, Map<Op, Integer> asked,
            Map<Op, Integer> done) {
        int at = h.log.indexOf(a);
        if (at < 0 || h.log.lastIndexOf(a) != at || answerAt(h.log, at) != told) {
            return false;
        }
        return h.log.subList(0, at).stream()
                .noneMatch(o -> o.key == a.key && asked.get(o) > done.get(a));
    }

    private static boolean getStandsRight(Head h, Op get, int told, Map<Op, Integer> asked,
            Map<Op, Integer> done) {
        for (int n = 0; n <= h.log.size(); n++) {
            boolean behind = h.log.subList(n, h.log.size()).stream().noneMatch(
                    o -> o.key == get.key && done.containsKey(o) && done.get(o) < asked.get(get));
            boolean ahead = h.log.subList(0, n).stream()
                    .noneMatch(o -> o.key == get.key && asked.get(o) > done.get(get));
            if (behind && ahead && run(h.log, get.key, n)[0] == told) {
                return true;
            }
        }
        return false;
    }

    /** Every answer that the object gives without being changed, in a fixed order. */
    List<Integer> shows() {
        List<Integer> all = new ArrayList<>();
        for (Mail m : row) {
            all.addAll(List.of(List.of(KINDS).indexOf(m.kind), m.epoch, m.who, m.shown));
        }
        for (Person p : persons) {
            all.addAll(List.of(p.op == null ? 0 : p.op.number, p.done ? 1 : 0, p.told, p.epoch,
                    p.accepts.size(), !p.done && p.answer != null ? 1 : 0, p.fast));
        }
        for (Head h : heads) {
            all.addAll(List.of(h.lives ? 1 : 0, h.log.size(), synced(h),
                    h.lives ? h.gets.size() : 0, h.began));
            for (int key = 0; key < 16; key++) {
                all.add(run(h.log, key, h.log.size())[0]);
            }
        }
        for (Copy b : copies) {
            all.addAll(List.of(b.epoch, b.log.size()));
        }
        for (Memory w : memories) {
            int bits = w.records.stream().mapToInt(o -> 1 << o.key).sum();
            all.addAll(List.of(w.epoch, w.frozen ? 1 : 0, w.records.size(), bits));
        }
        int asked = (int) history.stream().filter(Event::asked).count();
        all.addAll(List.of(audit(), row.size(), heads.size(), asked, history.size() - asked,
                overflowed, f, sets, ways, batch));
        return all;
    }
}
