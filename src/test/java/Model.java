import java.util.ArrayList;
import java.util.Comparator;
import java.util.HashMap;
import java.util.LinkedHashSet;
import java.util.List;
import java.util.Map;
import java.util.Set;
import java.util.TreeMap;
import java.util.TreeSet;

/**
 * The document once more, held otherwise than the class holds it (maps and sets, nothing kept that
 * can be worked out when it is asked), so that a slip in one of the two shows as a difference.
 */
final class Model implements Subject {
    private static final int GONE = 1000;
    private static final int DONE = 0, WAITS = -11, RESTART = -12, ENDED = -13, DOWN = -14;

    private enum State { PENDING, STAGED, COMMITTED, ABORTED }

    private static final class Tx {
        int number, home, rank, read, write, doubt, beat;
        State state = State.PENDING;
        Tx waits;
        final Map<Integer, Integer> doubtAt = new HashMap<>();
        final TreeMap<Integer, Integer> reads = new TreeMap<>();
        final TreeMap<Integer, Integer> writes = new TreeMap<>();
    }

    private static final class Intent {
        final Tx by;
        final int value;
        boolean sure;

        Intent(Tx by, int value) {
            this.by = by;
            this.value = value;
        }
    }

    private static final int EVERYBODY = -7;

    private int time;
    private final int[] skews = new int[4];
    private final int[] met = new int[4];
    private final Set<Integer> downs = new TreeSet<>();
    private final TreeMap<Integer, Integer> ranges = new TreeMap<>(Map.of(0, 0));
    private final Map<Integer, TreeMap<Integer, Integer>> versions = new HashMap<>();
    private final Map<Integer, Intent> intents = new HashMap<>();
    private final Map<Integer, Integer> keyRead = new HashMap<>();
    private final Map<Integer, Set<Integer>> keyReaders = new HashMap<>();
    private final List<Tx> all = new ArrayList<>();
    private final List<Tx> committed = new ArrayList<>();

    private static void index(boolean isThere) {
        if (!isThere) throw new IndexOutOfBoundsException();
    }

    private static void argument(boolean isFine) {
        if (!isFine) throw new IllegalArgumentException();
    }

    private static void state(boolean isFine) {
        if (!isFine) throw new IllegalStateException();
    }

    private static boolean within(int x, int low, int high) {
        return low <= x && x <= high;
    }

    private Tx tx(int number) {
        index(within(number, 0, all.size() - 1));
        return all.get(number);
    }

    @Override
    public int call(String name, int... a) {
        switch (name) {
            case "pass": argument(within(a[0], 1, 50)); state(time + a[0] <= 2000); return time += a[0];
            case "skew": return skew(a[0], a[1]);
            case "clock": index(within(a[0], 0, 3)); state(!downs.contains(a[0])); return ask(a[0]);
            case "closed": return closedStamp();
            case "down": return down(a[0]);
            case "up": return up(a[0]);
            case "sync": return sync(a[0]);
            case "split": return split(a[0]);
            case "merge": return merge(a[0]);
            case "move": return move(a[0], a[1]);
            case "begin": return begin(a[0], a[1]);
            case "get": return get(a[0], a[1]);
            case "put": return put(a[0], a[1], a[2]);
            case "commit": return commit(tx(a[0]), a[1] != 0);
            case "abort": return abort(tx(a[0]));
            case "recover": return recover(tx(a[0]));
            case "beat": return beat(tx(a[0]));
            case "told": return told(tx(a[0]), a[1]);
            case "key": return key(a[0], a[1]);
            case "asOf": return asOf(a[0], a[1]);
            case "resolved": return resolvedStamp();
            case "feed": return feed(a[0]);
            case "order": return order(a[0]);
            case "judged": return judged();
            default: throw new AssertionError("no call " + name);
        }
    }

    // Time, nodes, ranges.

    private int skew(int node, int skew) {
        index(within(node, 0, 3));
        argument(within(skew, -5, 5));
        int before = skews[node];
        skews[node] = skew;
        return before;
    }

    private int ask(int node) {
        int byTime = (time + skews[node]) * 10;
        int byStamps = met[node] + 1;
        met[node] = byTime > byStamps ? byTime : byStamps;
        return met[node];
    }

    private int closedStamp() {
        return time < 15 ? 0 : (time - 15) * 10;
    }

    private int nodeOf(int key) {
        return ranges.floorEntry(key).getValue();
    }

    private void raise(int key, int stamp, int by) {
        int before = keyRead.getOrDefault(key, 0);
        if (stamp > before) {
            keyRead.put(key, stamp);
            keyReaders.put(key, new TreeSet<>(Set.of(by)));
        } else if (stamp == before && by != EVERYBODY) {
            keyReaders.computeIfAbsent(key, k -> new TreeSet<>()).add(by);
        }
    }

    private int reader(int key) {
        Set<Integer> readers = keyReaders.getOrDefault(key, Set.of());
        if (readers.isEmpty()) return -1;
        return readers.size() > 1 || readers.contains(EVERYBODY) ? -2 : readers.iterator().next();
    }

    private int down(int node) {
        index(within(node, 0, 3));
        state(!downs.contains(node));
        downs.add(node);
        int before = intents.size();
        intents.entrySet().removeIf(e -> nodeOf(e.getKey()) == node && !e.getValue().sure);
        return before - intents.size();
    }

    private int up(int node) {
        index(within(node, 0, 3));
        state(downs.contains(node));
        downs.remove(node);
        int stamp = ask(node);
        for (int k = 0; k < 32; k++) if (nodeOf(k) == node) raise(k, stamp, EVERYBODY);
        return stamp;
    }

    private int sync(int node) {
        index(within(node, 0, 3));
        state(!downs.contains(node));
        int made = 0;
        for (Map.Entry<Integer, Intent> e : intents.entrySet()) {
            if (nodeOf(e.getKey()) == node && !e.getValue().sure) {
                e.getValue().sure = true;
                made++;
            }
        }
        return made;
    }

    private int split(int key) {
        index(within(key, 1, 31));
        state(!ranges.containsKey(key));
        ranges.put(key, nodeOf(key));
        return ranges.size();
    }

    private int merge(int range) {
        index(within(range, 0, ranges.size() - 2));
        List<Integer> starts = new ArrayList<>(ranges.keySet());
        int here = starts.get(range);
        int next = starts.get(range + 1);
        state(ranges.get(here).equals(ranges.get(next)));
        ranges.remove(next);
        return ranges.size();
    }

    private int move(int range, int node) {
        index(within(range, 0, ranges.size() - 1) && within(node, 0, 3));
        int start = new ArrayList<>(ranges.keySet()).get(range);
        int before = ranges.get(start);
        state(!downs.contains(before) && !downs.contains(node));
        ranges.put(start, node);
        int stamp = ask(before);
        for (int k = 0; k < 32; k++) if (ranges.floorKey(k) == start) raise(k, stamp, EVERYBODY);
        return before;
    }

    // Transactions.

    private int begin(int node, int rank) {
        index(within(node, 0, 3));
        argument(within(rank, 0, 9));
        state(!downs.contains(node) && all.size() < 40);
        Tx t = new Tx();
        t.number = all.size();
        t.home = node;
        t.rank = rank;
        t.read = t.write = ask(node);
        t.doubt = t.read + 100;
        t.beat = time;
        all.add(t);
        return t.number;
    }

    private boolean isVanished(Tx t) {
        return (t.state == State.PENDING || t.state == State.STAGED) && time - t.beat > 20;
    }

    private Tx waitsFor(Tx t) {
        if (t.state != State.PENDING || t.waits == null) return null;
        return t.waits.state == State.PENDING ? t.waits : null;
    }

    private int refusal(Tx t, int key) {
        if (t.state != State.PENDING) return ENDED;
        if (downs.contains(t.home) || downs.contains(nodeOf(key))) return DOWN;
        return DONE;
    }

    private void arrive(Tx t, int key) {
        t.waits = null;
        int node = nodeOf(key);
        met[node] = Math.max(met[node], t.read);
        if (!t.doubtAt.containsKey(node)) {
            int told = ask(node);
            t.doubtAt.put(node, told < t.doubt ? told : t.doubt);
        }
    }

    private void commitAll(Tx t) {
        t.state = State.COMMITTED;
        committed.add(t);
        for (int k = 0; k < 32; k++) {
            Intent i = intents.get(k);
            if (i != null && i.by == t) {
                intents.remove(k);
                versions.computeIfAbsent(k, x -> new TreeMap<>()).put(t.write, i.value);
            }
        }
    }

    private boolean isWhole(Tx t) {
        return t.writes.keySet().stream().allMatch(k -> intents.get(k) != null && intents.get(k).by == t);
    }

    private void decide(Tx t) {
        if (isWhole(t)) commitAll(t); else t.state = State.ABORTED;
    }

    /** The one whose intent is in the way of t at the key, or null. */
    private Tx inTheWay(Tx t, int key) {
        Intent i = intents.get(key);
        if (i == null || i.by == t) return null;
        if (i.by.state == State.STAGED) decide(i.by);
        if (i.by.state == State.PENDING && isVanished(i.by)) i.by.state = State.ABORTED;
        if (i.by.state == State.ABORTED) intents.remove(key);
        return i.by.state == State.PENDING ? i.by : null;
    }

    /** WAITS, or ENDED, or 0 if the call goes on as if it came anew. */
    private int waits(Tx t, Tx other) {
        t.waits = other;
        Set<Tx> ring = new LinkedHashSet<>();
        Tx at = t;
        while (at != null && ring.add(at)) at = waitsFor(at);
        if (at == null) return WAITS;
        Tx out = ring.stream().min(Comparator.comparingInt((Tx r) -> r.rank).thenComparingInt(r -> -r.number)).get();
        out.state = State.ABORTED;
        t.waits = null;
        return out == t ? ENDED : 0;
    }

    private boolean hasVersion(int key, int above, int upTo) {
        return versions.containsKey(key) && !versions.get(key).subMap(above, false, Math.max(above, upTo), true).isEmpty();
    }

    private boolean refresh(Tx t, int stamp) {
        for (int k : t.reads.keySet()) {
            if (downs.contains(nodeOf(k))) return false;
            Tx other = inTheWay(t, k);
            if (other != null && other.write <= stamp) return false;
            if (hasVersion(k, t.read, stamp)) return false;
        }
        for (int k : t.reads.keySet()) raise(k, stamp, t.number);
        return true;
    }

    private int restart(Tx t, int stamp) {
        intents.values().removeIf(i -> i.by == t);
        t.reads.clear();
        t.writes.clear();
        t.read = t.write = stamp;
        return RESTART;
    }

    private int get(int number, int key) {
        Tx t = tx(number);
        index(within(key, 0, 31));
        if (refusal(t, key) != DONE) return refusal(t, key);
        arrive(t, key);
        while (true) {
            if (t.writes.containsKey(key)) return t.writes.get(key);
            int doubt = t.doubtAt.get(nodeOf(key));
            int reach = t.read > doubt ? t.read : doubt;
            Tx other = inTheWay(t, key);
            if (other != null && other.write <= reach) {
                if (t.rank > other.rank) {
                    other.write = reach + 1;
                } else {
                    int answer = waits(t, other);
                    if (answer != 0) return answer;
                    continue;
                }
            }
            if (hasVersion(key, t.read, doubt)) {
                int stamp = versions.get(key).floorKey(doubt);
                if (!refresh(t, stamp)) return restart(t, stamp > t.write ? stamp : t.write);
                t.read = stamp;
                t.write = Math.max(t.write, stamp);
                continue;
            }
            Map.Entry<Integer, Integer> latest = versions.containsKey(key) ? versions.get(key).floorEntry(t.read) : null;
            raise(key, t.read, t.number);
            t.reads.put(key, latest == null ? GONE : latest.getValue());
            return t.reads.get(key);
        }
    }

    private int put(int number, int key, int value) {
        Tx t = tx(number);
        index(within(key, 0, 31));
        argument(within(value, 0, 1000));
        if (refusal(t, key) != DONE) return refusal(t, key);
        arrive(t, key);
        Tx other = inTheWay(t, key);
        while (other != null) {
            if (t.rank > other.rank) {
                other.state = State.ABORTED;
                intents.remove(key);
            } else {
                int answer = waits(t, other);
                if (answer != 0) return answer;
            }
            other = inTheWay(t, key);
        }
        if (versions.containsKey(key)) t.write = Math.max(t.write, versions.get(key).lastKey() + 1);
        if (reader(key) != t.number) t.write = Math.max(t.write, keyRead.getOrDefault(key, 0) + 1);
        t.writes.put(key, value);
        intents.put(key, new Intent(t, value));
        return DONE;
    }

    private int commit(Tx t, boolean isStaged) {
        if (t.state != State.PENDING) return ENDED;
        if (downs.contains(t.home)) return DOWN;
        for (int k : t.writes.keySet()) if (downs.contains(nodeOf(k))) return DOWN;
        t.waits = null;
        if (!t.writes.isEmpty()) t.write = Math.max(t.write, closedStamp() + 1);
        if (t.write > t.read) {
            if (!refresh(t, t.write)) return restart(t, t.write);
            t.read = t.write;
        }
        if (!isWhole(t)) {
            t.state = State.ABORTED;
            return ENDED;
        }
        if (isStaged && !t.writes.isEmpty()) t.state = State.STAGED; else commitAll(t);
        return DONE;
    }

    private int abort(Tx t) {
        if (t.state != State.PENDING) return ENDED;
        t.state = State.ABORTED;
        return DONE;
    }

    private int recover(Tx t) {
        if (t.state == State.STAGED) decide(t);
        return t.state.ordinal();
    }

    private int beat(Tx t) {
        if (t.state != State.PENDING) return ENDED;
        t.beat = time;
        return DONE;
    }

    // Questions.

    private int told(Tx t, int what) {
        argument(within(what, 0, 6));
        int[] answers = {t.state.ordinal(), t.read, t.write, waitsFor(t) == null ? -1 : waitsFor(t).number,
            t.reads.size(), t.writes.size(), isVanished(t) ? 1 : 0};
        return answers[what];
    }

    private int key(int key, int what) {
        index(within(key, 0, 31));
        argument(within(what, 0, 6));
        Intent i = intents.get(key);
        int[] answers = {versions.containsKey(key) ? versions.get(key).size() : 0, i == null ? -1 : i.by.number,
            keyRead.getOrDefault(key, 0), reader(key), ranges.headMap(key, true).size() - 1, nodeOf(key),
            i != null && i.sure ? 1 : 0};
        return answers[what];
    }

    private int asOf(int key, int stamp) {
        index(within(key, 0, 31));
        argument(within(stamp, 0, closedStamp()));
        Intent i = intents.get(key);
        if (i != null && i.by.state == State.STAGED && i.by.write <= stamp) return WAITS;
        Map.Entry<Integer, Integer> e = versions.containsKey(key) ? versions.get(key).floorEntry(stamp) : null;
        return e == null ? GONE : e.getValue();
    }

    private int resolvedStamp() {
        int least = closedStamp();
        for (Tx t : all) if (t.state == State.STAGED && t.write - 1 < least) least = t.write - 1;
        return least;
    }

    private int feed(int place) {
        index(place >= 0);
        TreeSet<Integer> changes = new TreeSet<>();
        versions.forEach((k, v) -> v.headMap(resolvedStamp(), true).keySet().forEach(s -> changes.add(32 * s + k)));
        return place < changes.size() ? new ArrayList<>(changes).get(place) : -1;
    }

    private List<Tx> inOrder() {
        List<Tx> sorted = new ArrayList<>(committed);
        sorted.sort(Comparator.comparingInt(t -> t.write));
        return sorted;
    }

    private int order(int place) {
        index(place >= 0);
        return place < committed.size() ? inOrder().get(place).number : -1;
    }

    private int judged() {
        Map<Integer, Integer> now = new HashMap<>();
        int wrong = 0;
        for (Tx t : inOrder()) {
            for (Map.Entry<Integer, Integer> r : t.reads.entrySet()) {
                if (!now.getOrDefault(r.getKey(), GONE).equals(r.getValue())) wrong++;
            }
            now.putAll(t.writes);
        }
        return wrong;
    }
}
