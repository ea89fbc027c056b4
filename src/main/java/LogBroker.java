import java.util.Arrays;
import java.util.NoSuchElementException;

/** A broker of logs: partitions of records, producers, transactions and groups of consumers. */
public final class LogBroker {
    private static final int NONE = -1;

    private static final int TOPICS = 3;
    private static final int MOST_PARTITIONS = 3;
    private static final int MOST_SIZE = 4;
    private static final int MOST_KEPT = 5;
    private static final int TPS_OF_TOPIC = 4;
    private static final int TPS = TOPICS * TPS_OF_TOPIC;
    private static final int ROOM = 60;
    private static final int KEYS = 8;

    private static final int PRODUCERS = 4;
    private static final int SESSIONS = 6;
    private static final int REMEMBERED = 3;

    private static final int GROUPS = 2;
    private static final int MEMBERS = 4;

    private static final int DATA = 0;
    private static final int COMMIT = 1;
    private static final int ABORT = 2;

    private static final int COMMITTED = 0;
    private static final int ABORTED = 1;
    private static final int UNDECIDED = 2;

    private final int[] partitionsOf = new int[TOPICS];
    private final Log[] logs = new Log[TPS];
    private final Session[] sessions = new Session[SESSIONS];
    private final int[] currentOf = new int[PRODUCERS];
    private final int[] openedFor = new int[PRODUCERS];
    private final Group[] groups = new Group[GROUPS];
    private int written;
    private int repeats;
    private int markers;
    private int shortened;
    private int compactedAway;

    public LogBroker() {
        for (int s = 0; s < SESSIONS; s++) {
            sessions[s] = new Session();
        }
        for (int g = 0; g < GROUPS; g++) {
            groups[g] = new Group();
        }
        Arrays.fill(currentOf, NONE);
    }

    public void topic(int t, int partitions, int size, int keep, boolean compacted)
            throws IllegalArgumentException, IllegalStateException {
        mustBeWithin(t, 0, TOPICS - 1);
        mustBeWithin(partitions, 1, MOST_PARTITIONS);
        mustBeWithin(size, 1, MOST_SIZE);
        mustBeWithin(keep, 1, MOST_KEPT);
        if (partitionsOf[t] > 0) {
            throw new IllegalStateException("the topic is there");
        }
        partitionsOf[t] = partitions;
        for (int n = 0; n < partitions; n++) {
            logs[t * TPS_OF_TOPIC + n] = new Log(size, keep, compacted);
        }
    }

    public int open(int s, int p)
            throws IllegalArgumentException, IllegalStateException, UnsupportedOperationException {
        mustBeWithin(s, 0, SESSIONS - 1);
        mustBeWithin(p, 0, PRODUCERS - 1);
        Session session = sessions[s];
        // Fencing a session off ends its transaction, so this one is current if it has one.
        if (session.transacting && session.producer != p) {
            throw new IllegalStateException("it has an open transaction for another producer");
        }
        abortOpenTransactionOf(p);
        if (isCurrent(s)) {
            currentOf[session.producer] = NONE;
        }
        session.startFor(p);
        currentOf[p] = s;
        openedFor[p]++;
        return openedFor[p];
    }

    public int produce(int s, int tp, int number, int key, int value)
            throws IllegalArgumentException, NoSuchElementException, IllegalStateException,
            UnsupportedOperationException {
        mustBeWithin(s, 0, SESSIONS - 1);
        Log log = logAt(tp);
        mustBeWithin(key, NONE, KEYS - 1);
        if (number < 0) {
            throw new IllegalArgumentException("the number is below 0");
        }
        Session session = openedSession(s);
        boolean repeat = session.remembers(tp, number);
        if (!repeat && !session.expects(tp, number)) {
            throw new IllegalStateException("the number is neither expected nor remembered");
        }
        mustBeCurrent(s);
        if (repeat) {
            repeats++;
            return session.offsetRemembered(tp, number);
        }
        if (log.isFull()) {
            throw new UnsupportedOperationException("no room in the log");
        }
        int state = session.transacting ? UNDECIDED : COMMITTED;
        int offset = write(log, new Entry(DATA, key, value, session.producer, state));
        session.remember(tp, offset);
        return offset;
    }

    public void begin(int s)
            throws IllegalArgumentException, NoSuchElementException, IllegalStateException,
            UnsupportedOperationException {
        mustBeWithin(s, 0, SESSIONS - 1);
        Session session = openedSession(s);
        if (session.transacting) {
            throw new IllegalStateException("a transaction is open");
        }
        mustBeCurrent(s);
        session.transacting = true;
    }

    public int end(int s, boolean commit)
            throws IllegalArgumentException, NoSuchElementException, IllegalStateException,
            UnsupportedOperationException {
        mustBeWithin(s, 0, SESSIONS - 1);
        Session session = openedSession(s);
        if (!session.transacting) {
            throw new IllegalStateException("no transaction is open");
        }
        // Fencing a session off ends its transaction, so this one, with an open one, is not fenced.
        mustHaveRoomForMarkers(session.producer);
        return decide(session, commit);
    }

    public int fetch(int tp, int offset, boolean committed)
            throws IllegalArgumentException, NoSuchElementException, IndexOutOfBoundsException {
        Log log = logAt(tp);
        if (offset < log.start || offset > log.end) {
            throw new IndexOutOfBoundsException("the offset is out of the log");
        }
        return found(log.firstVisible(offset, committed));
    }

    public int told(int tp, int offset, int what)
            throws IllegalArgumentException, NoSuchElementException, IndexOutOfBoundsException {
        Log log = logAt(tp);
        mustBeWithin(what, 0, 4);
        if (offset < log.start || offset >= log.end) {
            throw new IndexOutOfBoundsException("the offset is out of the log");
        }
        Entry entry = log.entries[offset];
        if (entry == null) {
            throw new NoSuchElementException("the record is gone");
        }
        switch (what) {
            case 0: return entry.key;
            case 1: return entry.value;
            case 2: return entry.kind;
            case 3: return entry.producer;
            default: return entry.state;
        }
    }

    public int compact(int tp) throws IllegalArgumentException, IllegalStateException {
        Log log = logAt(tp);
        if (!log.compacted) {
            throw new IllegalStateException("the topic is not compacted");
        }
        int gone = log.dropOutdated();
        compactedAway += gone;
        return gone;
    }

    public int join(int g, int m, int topic) throws IllegalArgumentException, NoSuchElementException {
        mustBeWithin(g, 0, GROUPS - 1);
        mustBeWithin(m, 0, MEMBERS - 1);
        mustBeWithin(topic, 0, TOPICS - 1);
        if (partitionsOf[topic] == 0) {
            throw new NoSuchElementException("the topic is none");
        }
        return groups[g].changeMember(m, topic, partitionsOf);
    }

    public int leave(int g, int m) throws IllegalArgumentException, NoSuchElementException {
        mustBeWithin(g, 0, GROUPS - 1);
        mustBeWithin(m, 0, MEMBERS - 1);
        if (groups[g].topicOf[m] == NONE) {
            throw new NoSuchElementException("the member is not in the group");
        }
        return groups[g].changeMember(m, NONE, partitionsOf);
    }

    public int owner(int g, int tp) throws IllegalArgumentException, NoSuchElementException {
        mustBeWithin(g, 0, GROUPS - 1);
        logAt(tp);
        return found(groups[g].ownerOf[tp]);
    }

    public int poll(int g, int m, int generation, int tp)
            throws IllegalArgumentException, NoSuchElementException, IllegalStateException {
        mustBeWithin(g, 0, GROUPS - 1);
        mustBeWithin(m, 0, MEMBERS - 1);
        Log log = logAt(tp);
        Group group = groups[g];
        mustOwn(group, m, generation, tp);
        int offset = found(log.firstVisible(Math.max(group.positions[tp], log.start), true));
        group.positions[tp] = offset + 1;
        return offset;
    }

    public void keep(int g, int m, int generation, int tp, int offset)
            throws IllegalArgumentException, IllegalStateException {
        mustBeWithin(g, 0, GROUPS - 1);
        mustBeWithin(m, 0, MEMBERS - 1);
        Log log = logAt(tp);
        mustBeWithin(offset, 0, log.end);
        mustOwn(groups[g], m, generation, tp);
        groups[g].kept[tp] = offset;
    }

    public int log(int tp, int what) throws IllegalArgumentException {
        Log log = logAt(tp);
        mustBeWithin(what, 0, 8);
        switch (what) {
            case 0: return log.start;
            case 1: return log.end;
            case 2: return log.stableOffset();
            case 3: return log.present;
            case 4: return log.closed;
            case 5: return groups[0].positions[tp];
            case 6: return groups[1].positions[tp];
            case 7: return groups[0].kept[tp];
            default: return groups[1].kept[tp];
        }
    }

    public int count(int what) {
        switch (what) {
            case 0: return written;
            case 1: return repeats;
            case 2: return markers;
            case 3: return shortened;
            case 4: return compactedAway;
            case 5: return openTransactions();
            case 6: return groups[0].generation;
            case 7: return groups[1].generation;
            default: return -1;
        }
    }

    private static void mustBeWithin(int n, int least, int most) {
        if (n < least || n > most) {
            throw new IllegalArgumentException("a number is out of range");
        }
    }

    private Log logAt(int tp) {
        if (tp < 0 || tp >= TPS || logs[tp] == null) {
            throw new IllegalArgumentException("the partition is not there");
        }
        return logs[tp];
    }

    private Session openedSession(int s) {
        if (sessions[s].producer == NONE) {
            throw new NoSuchElementException("no such session");
        }
        return sessions[s];
    }

    private boolean isCurrent(int s) {
        int producer = sessions[s].producer;
        return producer != NONE && currentOf[producer] == s;
    }

    private void mustBeCurrent(int s) {
        if (!isCurrent(s)) {
            throw new UnsupportedOperationException("the session is fenced");
        }
    }

    private static int found(int answer) {
        if (answer == NONE) {
            throw new NoSuchElementException("there is none");
        }
        return answer;
    }

    private static void mustOwn(Group group, int m, int generation, int tp) {
        if (generation != group.generation || group.ownerOf[tp] != m) {
            throw new IllegalStateException("another generation, or not the member's partition");
        }
    }

    private void abortOpenTransactionOf(int producer) {
        int current = currentOf[producer];
        if (current != NONE && sessions[current].transacting) {
            mustHaveRoomForMarkers(producer);
            decide(sessions[current], false);
        }
    }

    private void mustHaveRoomForMarkers(int producer) {
        for (int tp = 0; tp < TPS; tp++) {
            if (awaitsMarker(tp, producer) && logs[tp].isFull()) {
                throw new UnsupportedOperationException("no room for a marker");
            }
        }
    }

    private boolean awaitsMarker(int tp, int producer) {
        return logs[tp] != null && logs[tp].hasUndecidedOf(producer);
    }

    private int decide(Session session, boolean commit) {
        int producer = session.producer;
        int before = markers;
        for (int tp = 0; tp < TPS; tp++) {
            if (awaitsMarker(tp, producer)) {
                write(logs[tp], new Entry(commit ? COMMIT : ABORT, NONE, 0, producer, COMMITTED));
                markers++;
            }
        }
        // Shortening after a marker still sees the transaction open, so this waits for the last one.
        for (int tp = 0; tp < TPS; tp++) {
            if (logs[tp] != null) {
                logs[tp].settle(producer, commit ? COMMITTED : ABORTED);
            }
        }
        session.transacting = false;
        return markers - before;
    }

    private int write(Log log, Entry entry) {
        int offset = log.append(entry);
        written++;
        shortened += log.shorten();
        return offset;
    }

    private int openTransactions() {
        int open = 0;
        for (int s = 0; s < SESSIONS; s++) {
            if (sessions[s].transacting) {
                open++;
            }
        }
        return open;
    }

    /** A record in a log. */
    private static final class Entry {
        final int kind;
        final int key;
        final int value;
        final int producer;
        int state;

        Entry(int kind, int key, int value, int producer, int state) {
            this.kind = kind;
            this.key = key;
            this.value = value;
            this.producer = producer;
            this.state = state;
        }

        // A producer has at most one open transaction, its current session's,
        // so the producer tells which transaction an undecided record belongs to.
        boolean isUndecidedOf(int someone) {
            return state == UNDECIDED && producer == someone;
        }
    }

    /** The log of one partition; a record that is gone leaves null in its place. */
    private static final class Log {
        final int size;
        final int most;
        final boolean compacted;
        final Entry[] entries = new Entry[ROOM];
        int start;
        int end;
        int openBase;
        int closed;
        int present;

        Log(int size, int most, boolean compacted) {
            this.size = size;
            this.most = most;
            this.compacted = compacted;
        }

        boolean isFull() {
            return end >= ROOM;
        }

        int append(Entry entry) {
            int offset = end;
            entries[offset] = entry;
            present++;
            end++;
            if (end == openBase + size) {
                openBase = end;
                closed++;
            }
            return offset;
        }

        int shorten() {
            int before = present;
            int stable = stableOffset();
            while (closed > most && start + size <= stable) {
                for (int offset = start; offset < start + size; offset++) {
                    drop(offset);
                }
                start += size;
                closed--;
            }
            return before - present;
        }

        void drop(int offset) {
            if (entries[offset] != null) {
                entries[offset] = null;
                present--;
            }
        }

        int stableOffset() {
            for (int offset = start; offset < end; offset++) {
                if (entries[offset] != null && entries[offset].state == UNDECIDED) {
                    return offset;
                }
            }
            return end;
        }

        boolean hasUndecidedOf(int producer) {
            for (int offset = start; offset < end; offset++) {
                if (entries[offset] != null && entries[offset].isUndecidedOf(producer)) {
                    return true;
                }
            }
            return false;
        }

        void settle(int producer, int state) {
            for (int offset = start; offset < end; offset++) {
                if (entries[offset] != null && entries[offset].isUndecidedOf(producer)) {
                    entries[offset].state = state;
                }
            }
        }

        boolean hasData(int offset) {
            return entries[offset] != null && entries[offset].kind == DATA;
        }

        int firstVisible(int from, boolean committed) {
            int below = committed ? stableOffset() : end;
            for (int offset = from; offset < below; offset++) {
                if (hasData(offset) && (!committed || entries[offset].state == COMMITTED)) {
                    return offset;
                }
            }
            return NONE;
        }

        int dropOutdated() {
            int before = present;
            int stable = stableOffset();
            int limit = Math.min(openBase, stable);
            int keysSeen = 0;
            // From the newest down, so that a key seen is one that a later record still bears.
            for (int offset = stable - 1; offset >= start; offset--) {
                if (hasData(offset)) {
                    Entry entry = entries[offset];
                    int bit = bitOfCommittedKey(entry);
                    boolean outdated = entry.state == ABORTED || (keysSeen & bit) != 0;
                    if (outdated && offset < limit) {
                        drop(offset);
                    }
                    keysSeen |= bit;
                }
            }
            return before - present;
        }

        static int bitOfCommittedKey(Entry entry) {
            return entry.state == COMMITTED && entry.key != NONE ? 1 << entry.key : 0;
        }
    }

    /** A session; it belongs to no producer until it is opened. */
    private static final class Session {
        int producer = NONE;
        boolean transacting;
        final int[] expected = new int[TPS];
        final int[] offsets = new int[TPS * REMEMBERED];

        void startFor(int newProducer) {
            producer = newProducer;
            // The offsets remembered are out of reach once the numbers begin anew.
            Arrays.fill(expected, 0);
        }

        boolean expects(int tp, int number) {
            return number == expected[tp];
        }

        boolean remembers(int tp, int number) {
            return number < expected[tp] && number >= expected[tp] - REMEMBERED;
        }

        int offsetRemembered(int tp, int number) {
            return offsets[tp * REMEMBERED + number % REMEMBERED];
        }

        void remember(int tp, int offset) {
            offsets[tp * REMEMBERED + expected[tp] % REMEMBERED] = offset;
            expected[tp]++;
        }
    }

    /** A group of consumers. */
    private static final class Group {
        int generation;
        final int[] topicOf = new int[MEMBERS];
        final int[] ownerOf = new int[TPS];
        final int[] positions = new int[TPS];
        final int[] kept = new int[TPS];

        Group() {
            Arrays.fill(topicOf, NONE);
            Arrays.fill(ownerOf, NONE);
        }

        int changeMember(int m, int topic, int[] partitionsOf) {
            topicOf[m] = topic;
            generation++;
            Arrays.fill(ownerOf, NONE);
            for (int t = 0; t < TOPICS; t++) {
                shareOut(t, partitionsOf[t]);
            }
            System.arraycopy(kept, 0, positions, 0, TPS);
            return generation;
        }

        void shareOut(int topic, int partitions) {
            int sharers = membersFor(topic);
            if (sharers == 0) {
                return;
            }
            int larger = partitions % sharers;
            int tp = topic * TPS_OF_TOPIC;
            for (int m = 0; m < MEMBERS; m++) {
                if (topicOf[m] == topic) {
                    int behind = tp + partitions / sharers + (larger > 0 ? 1 : 0);
                    for (; tp < behind; tp++) {
                        ownerOf[tp] = m;
                    }
                    larger--;
                }
            }
        }

        int membersFor(int topic) {
            int members = 0;
            for (int m = 0; m < MEMBERS; m++) {
                if (topicOf[m] == topic) {
                    members++;
                }
            }
            return members;
        }
    }
}
