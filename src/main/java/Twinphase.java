import java.util.Arrays;

/**
 * Transactions over four nodes whose clocks disagree, over 32 keys with versions and intents.
 * What each call does is said, as numbered promises, in the document (DOC.md).
 */
public final class Twinphase {
    public static final int NONE = -1, SEVERAL = -2;
    public static final int GONE = 1000;
    public static final int DONE = 0, WAITS = -11, RESTART = -12, ENDED = -13, DOWN = -14;
    public static final int PENDING = 0, STAGED = 1, COMMITTED = 2, ABORTED = 3;

    private static final int NODES = 4;
    private static final int KEYS = 32;
    private static final int MOST_TRANSACTIONS = 40;
    private static final int MOST_RANK = 9;
    private static final int MOST_SKEW = 5;
    private static final int MOST_TICKS = 50;
    private static final int LAST_TIME = 2000;
    private static final int STAMPS_PER_TICK = 10;
    private static final int CLOSED_BEHIND = 15;
    private static final int ALIVE_TICKS = 20;
    private static final int DOUBT = 100;
    private static final int MOST_WHAT = 6;
    private static final int ANY_STAMP = 0x7FFFFFFF;

    // What a look at a key answers when the key has to be looked at once more.
    private static final int ANEW = -99;
    // Each look but the last one aborts a transaction or raises a read stamp to a version: far fewer.
    private static final int MOST_LOOKS = 1000000;

    private int time;
    private final Node[] nodes = new Node[NODES];
    private final Cell[] cells = new Cell[KEYS];
    private final Transaction[] transactions = new Transaction[MOST_TRANSACTIONS];
    private int begun;
    private final History history = new History();

    public Twinphase() {
        for (int node = 0; node < NODES; node++) {
            nodes[node] = new Node();
        }
        for (int key = 0; key < KEYS; key++) {
            cells[key] = new Cell();
        }
        cells[0].beginsRange = true;
    }

    // ---- time, nodes, ranges

    public int pass(int ticks) throws IllegalArgumentException, IllegalStateException {
        if (ticks < 1 || ticks > MOST_TICKS) {
            throw new IllegalArgumentException("ticks are 1 to 50");
        }
        if (time + ticks > LAST_TIME) {
            throw new IllegalStateException("the time is at most 2000");
        }
        time += ticks;
        return time;
    }

    public int skew(int node, int skew) throws IndexOutOfBoundsException, IllegalArgumentException {
        needNode(node);
        if (skew < -MOST_SKEW || skew > MOST_SKEW) {
            throw new IllegalArgumentException("a skew is -5 to 5");
        }
        int before = nodes[node].ahead;
        nodes[node].ahead = skew;
        return before;
    }

    public int clock(int node) throws IndexOutOfBoundsException, IllegalStateException {
        needNode(node);
        needUp(node);
        return nodes[node].tellStamp(time);
    }

    public int closed() {
        return closedStamp();
    }

    public int down(int node) throws IndexOutOfBoundsException, IllegalStateException {
        needNode(node);
        needUp(node);
        nodes[node].isDown = true;
        int lost = 0;
        for (Cell cell : cells) {
            if (cell.node == node && cell.owner != null && !cell.isSure) {
                cell.owner = null;
                lost++;
            }
        }
        return lost;
    }

    public int up(int node) throws IndexOutOfBoundsException, IllegalStateException {
        needNode(node);
        if (!nodes[node].isDown) {
            throw new IllegalStateException("the node is not down");
        }
        nodes[node].isDown = false;
        int stamp = nodes[node].tellStamp(time);
        for (Cell cell : cells) {
            if (cell.node == node) {
                cell.noteSeveral(stamp);
            }
        }
        return stamp;
    }

    public int sync(int node) throws IndexOutOfBoundsException, IllegalStateException {
        needNode(node);
        needUp(node);
        int unsure = 0;
        for (Cell cell : cells) {
            if (cell.node == node && cell.owner != null && !cell.isSure) {
                cell.isSure = true;
                unsure++;
            }
        }
        return unsure;
    }

    public int split(int key) throws IndexOutOfBoundsException, IllegalStateException {
        if (key < 1 || key >= KEYS) {
            throw new IndexOutOfBoundsException("a new range begins at 1 to 31");
        }
        if (cells[key].beginsRange) {
            throw new IllegalStateException("a range begins there already");
        }
        cells[key].beginsRange = true;
        return rangeOf(KEYS - 1) + 1;
    }

    public int merge(int range) throws IndexOutOfBoundsException, IllegalStateException {
        int next = range < 0 ? KEYS : firstKeyOf(range + 1);
        if (next < 1 || next >= KEYS) {
            throw new IndexOutOfBoundsException("no such range, or no next one");
        }
        if (cells[next].node != cells[next - 1].node) {
            throw new IllegalStateException("the ranges are on different nodes");
        }
        cells[next].beginsRange = false;
        return rangeOf(KEYS - 1) + 1;
    }

    public int move(int range, int node) throws IndexOutOfBoundsException, IllegalStateException {
        int first = firstKeyOf(range);
        if (first >= KEYS) {
            throw new IndexOutOfBoundsException("no such range");
        }
        needNode(node);
        int end = firstKeyOf(range + 1);
        int before = cells[first].node;
        needUp(before);
        needUp(node);
        int stamp = nodes[before].tellStamp(time);
        for (int key = first; key < end; key++) {
            cells[key].node = node;
            cells[key].noteSeveral(stamp);
        }
        return before;
    }

    // ---- transactions

    public int begin(int node, int rank)
            throws IndexOutOfBoundsException, IllegalArgumentException, IllegalStateException {
        needNode(node);
        if (rank < 0 || rank > MOST_RANK) {
            throw new IllegalArgumentException("a rank is 0 to 9");
        }
        needUp(node);
        if (begun >= MOST_TRANSACTIONS) {
            throw new IllegalStateException("there were 40 transactions");
        }
        int number = begun;
        transactions[number] = new Transaction(number, node, rank, nodes[node].tellStamp(time), time);
        begun++;
        return number;
    }

    public int get(int transaction, int key) throws IndexOutOfBoundsException {
        needTransaction(transaction);
        needKey(key);
        Transaction reader = transactions[transaction];
        int refusal = refusalAt(reader, key);
        if (refusal != DONE) {
            return refusal;
        }
        askNode(reader, cells[key].node);
        int answer = ANEW;
        for (int look = 0; look < MOST_LOOKS && answer == ANEW; look++) {
            answer = lookToRead(reader, key);
        }
        return answer;
    }

    public int put(int transaction, int key, int value)
            throws IndexOutOfBoundsException, IllegalArgumentException {
        needTransaction(transaction);
        needKey(key);
        if (value < 0 || value > GONE) {
            throw new IllegalArgumentException("a value is 0 to 999, or GONE");
        }
        Transaction writer = transactions[transaction];
        int refusal = refusalAt(writer, key);
        if (refusal != DONE) {
            return refusal;
        }
        askNode(writer, cells[key].node);
        int answer = ANEW;
        for (int look = 0; look < MOST_LOOKS && answer == ANEW; look++) {
            answer = lookToWrite(writer, key, value);
        }
        return answer;
    }

    public int commit(int transaction, boolean isStaged) throws IndexOutOfBoundsException {
        needTransaction(transaction);
        Transaction ending = transactions[transaction];
        if (ending.state != PENDING) {
            return ENDED;
        }
        if (nodes[ending.home].isDown || writesOnDownNode(ending)) {
            return DOWN;
        }
        ending.awaited = null;
        if (ending.writtenKeys != 0) {
            ending.writeStamp = Math.max(ending.writeStamp, closedStamp() + 1);
        }
        if (ending.writeStamp > ending.readStamp && !refreshReads(ending, ending.writeStamp)) {
            return restartAt(ending, ending.writeStamp);
        }
        ending.state = STAGED;
        if (!isStaged || ending.writtenKeys == 0 || !hasAllIntents(ending)) {
            decideStaged(ending);
        }
        return ending.state == ABORTED ? ENDED : DONE;
    }

    public int abort(int transaction) throws IndexOutOfBoundsException {
        needTransaction(transaction);
        if (transactions[transaction].state != PENDING) {
            return ENDED;
        }
        transactions[transaction].state = ABORTED;
        return DONE;
    }

    public int recover(int transaction) throws IndexOutOfBoundsException {
        needTransaction(transaction);
        Transaction recovered = transactions[transaction];
        if (recovered.state == STAGED) {
            decideStaged(recovered);
        }
        return recovered.state;
    }

    public int beat(int transaction) throws IndexOutOfBoundsException {
        needTransaction(transaction);
        if (transactions[transaction].state != PENDING) {
            return ENDED;
        }
        transactions[transaction].lastBeat = time;
        return DONE;
    }

    // ---- questions

    public int told(int transaction, int what) throws IndexOutOfBoundsException, IllegalArgumentException {
        needTransaction(transaction);
        needWhat(what);
        Transaction asked = transactions[transaction];
        switch (what) {
            case 0:
                return asked.state;
            case 1:
                return asked.readStamp;
            case 2:
                return asked.writeStamp;
            case 3:
                return asked.waitsFor() == null ? NONE : asked.waitsFor().number;
            case 4:
                return Integer.bitCount(asked.readKeys);
            case 5:
                return Integer.bitCount(asked.writtenKeys);
            default:
                return asked.isVanished(time) ? 1 : 0;
        }
    }

    public int key(int key, int what) throws IndexOutOfBoundsException, IllegalArgumentException {
        needKey(key);
        needWhat(what);
        Cell cell = cells[key];
        switch (what) {
            case 0:
                return history.countOf(key);
            case 1:
                return cell.owner == null ? NONE : cell.owner.number;
            case 2:
                return cell.readStamp;
            case 3:
                return cell.readBy;
            case 4:
                return rangeOf(key);
            case 5:
                return cell.node;
            default:
                return cell.owner != null && cell.isSure ? 1 : 0;
        }
    }

    public int asOf(int key, int stamp) throws IndexOutOfBoundsException, IllegalArgumentException {
        needKey(key);
        if (stamp < 0 || stamp > closedStamp()) {
            throw new IllegalArgumentException("a stamp is 0 to the closed stamp");
        }
        Transaction owner = cells[key].owner;
        if (owner != null && owner.state == STAGED && owner.writeStamp <= stamp) {
            return WAITS;
        }
        return history.valueUpTo(key, stamp);
    }

    public int resolved() {
        return resolvedStamp();
    }

    public int feed(int place) throws IndexOutOfBoundsException {
        needPlace(place);
        return history.changeAt(place, resolvedStamp());
    }

    public int order(int place) throws IndexOutOfBoundsException {
        needPlace(place);
        Transaction found = history.committedAt(place);
        return found == null ? NONE : found.number;
    }

    public int judged() {
        return history.countUnexplained();
    }

    // ---- what the calls need

    private void needNode(int node) {
        if (node < 0 || node >= NODES) {
            throw new IndexOutOfBoundsException("no such node");
        }
    }

    private void needUp(int node) {
        if (nodes[node].isDown) {
            throw new IllegalStateException("the node is down");
        }
    }

    private void needKey(int key) {
        if (key < 0 || key >= KEYS) {
            throw new IndexOutOfBoundsException("no such key");
        }
    }

    private void needTransaction(int transaction) {
        if (transaction < 0 || transaction >= begun) {
            throw new IndexOutOfBoundsException("no such transaction");
        }
    }

    private void needPlace(int place) {
        if (place < 0) {
            throw new IndexOutOfBoundsException("no such place");
        }
    }

    private void needWhat(int what) {
        if (what < 0 || what > MOST_WHAT) {
            throw new IllegalArgumentException("what is told is 0 to 6");
        }
    }

    // ---- stamps and ranges

    private int closedStamp() {
        return Math.max(0, STAMPS_PER_TICK * (time - CLOSED_BEHIND));
    }

    private int resolvedStamp() {
        int stamp = closedStamp();
        for (int number = 0; number < begun; number++) {
            if (transactions[number].state == STAGED) {
                stamp = Math.min(stamp, transactions[number].writeStamp - 1);
            }
        }
        return stamp;
    }

    private int rangeOf(int key) {
        int range = 0;
        for (int first = 1; first <= key; first++) {
            if (cells[first].beginsRange) {
                range++;
            }
        }
        return range;
    }

    /** The first key of a range, or KEYS if there is no such range. */
    private int firstKeyOf(int range) {
        int passed = 0;
        for (int key = 0; key < KEYS; key++) {
            if (cells[key].beginsRange) {
                if (passed == range) {
                    return key;
                }
                passed++;
            }
        }
        return KEYS;
    }

    // ---- asking nodes for keys

    private int refusalAt(Transaction asking, int key) {
        if (asking.state != PENDING) {
            return ENDED;
        }
        return nodes[asking.home].isDown || nodes[cells[key].node].isDown ? DOWN : DONE;
    }

    private void askNode(Transaction asking, int node) {
        asking.awaited = null;
        nodes[node].meetStamp(asking.readStamp);
        if (!asking.hasAsked(node)) {
            asking.noteClock(node, nodes[node].tellStamp(time));
        }
    }

    /** Meets the intent of another one at a key; returns that one if it is in the way, otherwise null. */
    private Transaction meetIntent(Transaction meeting, int key) {
        Transaction owner = cells[key].owner;
        if (owner == null || owner == meeting) {
            return null;
        }
        if (owner.state == STAGED) {
            decideStaged(owner);
        }
        if (owner.state == PENDING && owner.isVanished(time)) {
            owner.state = ABORTED;
        }
        if (owner.state == ABORTED) {
            cells[key].owner = null;
        }
        return owner.state == PENDING ? owner : null;
    }

    /** Lets one wait for another; returns WAITS, or what follows from a ring: ENDED or ANEW. */
    private int waitFor(Transaction waiting, Transaction other) {
        waiting.awaited = other;
        Transaction victim = victimOfRing(waiting);
        if (victim == null) {
            return WAITS;
        }
        waiting.awaited = null;
        victim.state = ABORTED;
        return victim == waiting ? ENDED : ANEW;
    }

    /** The one to abort in the ring of waits through this one, or null if there is no ring. */
    private Transaction victimOfRing(Transaction waiting) {
        Transaction victim = waiting;
        Transaction next = waiting.waitsFor();
        for (int step = 0; step < MOST_TRANSACTIONS && next != null && next != waiting; step++) {
            if (next.yieldsBefore(victim)) {
                victim = next;
            }
            next = next.waitsFor();
        }
        return next == waiting ? victim : null;
    }

    // ---- reading

    private int lookToRead(Transaction reader, int key) {
        if (reader.writes(key)) {
            return reader.writtenValues[key];
        }
        Transaction other = meetIntent(reader, key);
        int horizon = Math.max(reader.readStamp, reader.doubts[cells[key].node]);
        if (other != null && other.writeStamp <= horizon) {
            if (reader.rank <= other.rank) {
                return waitFor(reader, other);
            }
            other.writeStamp = horizon + 1;
        }
        int latest = history.stampUpTo(key, horizon);
        if (latest > reader.readStamp) {
            return refreshReads(reader, latest) ? ANEW : restartAt(reader, latest);
        }
        cells[key].noteReader(reader.number, reader.readStamp);
        return reader.noteRead(key, history.valueUpTo(key, reader.readStamp));
    }

    /** Refreshes reads to a stamp, and raises the transaction's stamps to it; returns whether it can be done. */
    private boolean refreshReads(Transaction reader, int stamp) {
        for (int key = 0; key < KEYS; key++) {
            if (!reader.hasRead(key)) {
                continue;
            }
            if (nodes[cells[key].node].isDown) {
                return false;
            }
            // Met ahead of the look for versions: one that was STAGED may leave a version here by that.
            Transaction other = meetIntent(reader, key);
            if (other != null && other.writeStamp <= stamp || history.stampUpTo(key, stamp) > reader.readStamp) {
                return false;
            }
        }
        for (int key = 0; key < KEYS; key++) {
            if (reader.hasRead(key)) {
                cells[key].noteReader(reader.number, stamp);
            }
        }
        reader.raiseStamps(stamp);
        return true;
    }

    private int restartAt(Transaction restarting, int stamp) {
        for (Cell cell : cells) {
            if (cell.owner == restarting) {
                cell.owner = null;
            }
        }
        restarting.forgetAll(stamp);
        return RESTART;
    }

    // ---- writing and committing

    private int lookToWrite(Transaction writer, int key, int value) {
        Cell cell = cells[key];
        Transaction other = meetIntent(writer, key);
        if (other != null) {
            if (writer.rank <= other.rank) {
                return waitFor(writer, other);
            }
            other.state = ABORTED;
        }
        int least = history.stampUpTo(key, ANY_STAMP) + 1;
        if (cell.readBy != writer.number) {
            least = Math.max(least, cell.readStamp + 1);
        }
        writer.writeStamp = Math.max(writer.writeStamp, least);
        writer.noteWrite(key, value);
        cell.owner = writer;
        cell.isSure = false;
        return DONE;
    }

    private boolean writesOnDownNode(Transaction writer) {
        for (int key = 0; key < KEYS; key++) {
            if (writer.writes(key) && nodes[cells[key].node].isDown) {
                return true;
            }
        }
        return false;
    }

    private boolean hasAllIntents(Transaction writer) {
        for (int key = 0; key < KEYS; key++) {
            if (writer.writes(key) && cells[key].owner != writer) {
                return false;
            }
        }
        return true;
    }

    /** Decides one that is STAGED: COMMITTED with versions for its intents, if all of them are there. */
    private void decideStaged(Transaction staged) {
        if (!hasAllIntents(staged)) {
            staged.state = ABORTED;
            return;
        }
        staged.state = COMMITTED;
        history.addCommitted(staged);
        for (int key = 0; key < KEYS; key++) {
            if (staged.writes(key)) {
                cells[key].owner = null;
                history.addChange(staged.writeStamp, key, staged.writtenValues[key]);
            }
        }
    }

    // ---- classes inside

    /** A node: its clock, and whether it is down. */
    private static final class Node {
        int ahead;
        int greatestMet;
        boolean isDown;

        int tellStamp(int time) {
            meetStamp(Math.max(STAMPS_PER_TICK * (time + ahead), greatestMet + 1));
            return greatestMet;
        }

        void meetStamp(int stamp) {
            greatestMet = Math.max(greatestMet, stamp);
        }
    }

    /** A key: where it lies, who has an intent there, and how it was read. */
    private static final class Cell {
        int node;
        boolean beginsRange;
        Transaction owner;
        boolean isSure;
        int readStamp;
        int readBy = NONE;

        void noteReader(int number, int stamp) {
            if (stamp > readStamp) {
                readStamp = stamp;
                readBy = number;
            } else if (stamp == readStamp && readBy != number) {
                readBy = SEVERAL;
            }
        }

        void noteSeveral(int stamp) {
            if (stamp > readStamp) {
                readStamp = stamp;
                readBy = SEVERAL;
            }
        }
    }

    /** A transaction; its sets of keys and of nodes are bits. */
    private static final class Transaction {
        final int number;
        final int home;
        final int rank;
        final int doubt;
        int state = PENDING;
        int readStamp;
        int writeStamp;
        int lastBeat;
        Transaction awaited;
        int readKeys;
        int writtenKeys;
        int askedNodes;
        final int[] readValues = new int[KEYS];
        final int[] writtenValues = new int[KEYS];
        final int[] doubts = new int[NODES];

        Transaction(int number, int home, int rank, int stamp, int time) {
            this.number = number;
            this.home = home;
            this.rank = rank;
            this.doubt = stamp + DOUBT;
            this.readStamp = stamp;
            this.writeStamp = stamp;
            this.lastBeat = time;
        }

        boolean isVanished(int time) {
            return (state == PENDING || state == STAGED) && time > lastBeat + ALIVE_TICKS;
        }

        Transaction waitsFor() {
            return state == PENDING && awaited != null && awaited.state == PENDING ? awaited : null;
        }

        boolean yieldsBefore(Transaction other) {
            return rank < other.rank || rank == other.rank && number > other.number;
        }

        boolean hasAsked(int node) {
            return (askedNodes >>> node & 1) != 0;
        }

        void noteClock(int node, int stamp) {
            askedNodes |= 1 << node;
            doubts[node] = Math.min(doubt, stamp);
        }

        boolean hasRead(int key) {
            return (readKeys >>> key & 1) != 0;
        }

        int noteRead(int key, int value) {
            readKeys |= 1 << key;
            readValues[key] = value;
            return value;
        }

        boolean writes(int key) {
            return (writtenKeys >>> key & 1) != 0;
        }

        void noteWrite(int key, int value) {
            writtenKeys |= 1 << key;
            writtenValues[key] = value;
        }

        /** What a RESTART leaves: the doubts stay, and which clocks were asked. */
        void forgetAll(int stamp) {
            readKeys = 0;
            writtenKeys = 0;
            writeStamp = Math.max(stamp, writeStamp);
            readStamp = writeStamp;
        }

        void raiseStamps(int stamp) {
            readStamp = stamp;
            writeStamp = Math.max(writeStamp, stamp);
        }
    }

    /** What was committed: the versions as one feed of changes, and the order of the transactions. */
    private static final class History {
        // A change is 32 times its stamp and its key, together; they rise.
        int[] changes = new int[KEYS];
        int[] values = new int[KEYS];
        int count;
        final Transaction[] inOrder = new Transaction[MOST_TRANSACTIONS];
        int committed;
        final int[] redone = new int[KEYS];

        void addChange(int stamp, int key, int value) {
            if (count == changes.length) {
                changes = Arrays.copyOf(changes, 2 * count);
                values = Arrays.copyOf(values, 2 * count);
            }
            int change = KEYS * stamp + key;
            int place = count;
            for (; place > 0 && changes[place - 1] > change; place--) {
                changes[place] = changes[place - 1];
                values[place] = values[place - 1];
            }
            changes[place] = change;
            values[place] = value;
            count++;
        }

        /** The place of the latest version of a key up to a stamp, or NONE. */
        int placeUpTo(int key, int stamp) {
            for (int place = count - 1; place >= 0; place--) {
                if (changes[place] % KEYS == key && changes[place] / KEYS <= stamp) {
                    return place;
                }
            }
            return NONE;
        }

        /** The stamp of the latest version of a key up to a stamp, or 0, below every version's. */
        int stampUpTo(int key, int stamp) {
            int place = placeUpTo(key, stamp);
            return place < 0 ? 0 : changes[place] / KEYS;
        }

        int valueUpTo(int key, int stamp) {
            int place = placeUpTo(key, stamp);
            return place < 0 ? GONE : values[place];
        }

        int countOf(int key) {
            int versions = 0;
            for (int place = 0; place < count; place++) {
                if (changes[place] % KEYS == key) {
                    versions++;
                }
            }
            return versions;
        }

        int changeAt(int place, int stamp) {
            return place < count && changes[place] / KEYS <= stamp ? changes[place] : NONE;
        }

        void addCommitted(Transaction added) {
            if (committed >= MOST_TRANSACTIONS) {
                return;
            }
            int place = committed;
            for (; place > 0 && inOrder[place - 1].writeStamp > added.writeStamp; place--) {
                inOrder[place] = inOrder[place - 1];
            }
            inOrder[place] = added;
            committed++;
        }

        Transaction committedAt(int place) {
            return place < committed ? inOrder[place] : null;
        }

        int countUnexplained() {
            Arrays.fill(redone, GONE);
            int unexplained = 0;
            for (int place = 0; place < committed; place++) {
                unexplained += redo(inOrder[place]);
            }
            return unexplained;
        }

        /** Does one transaction once more; returns how many of its reads give another value now. */
        int redo(Transaction again) {
            int unexplained = 0;
            for (int key = 0; key < KEYS; key++) {
                if (again.hasRead(key) && again.readValues[key] != redone[key]) {
                    unexplained++;
                }
            }
            for (int key = 0; key < KEYS; key++) {
                if (again.writes(key)) {
                    redone[key] = again.writtenValues[key];
                }
            }
            return unexplained;
        }
    }
}
