import java.util.ArrayDeque;
import java.util.ArrayList;
import java.util.HashSet;
import java.util.List;
import java.util.Random;
import java.util.Set;

/**
 * Runs of calls by a fixed seed, on the class and on a model of the document that is slow and plain: ITEMS one by
 * one, CHUNKS as objects that VERSIONS share in fact, and all that is asked is counted anew.
 */
public final class ModelTests {
    private static final int BAD = -1, NO = -2, FULL = -3, NONE = -99999999;
    private static final int CALLS = 512;
    private static final long[] VALUES = {0, 0, 1, 1, 2, -1, Long.MIN_VALUE, Long.MAX_VALUE};

    private static final class Chunk {
        final int number;
        final int firstNode;
        final long[][] items;

        Chunk(int number, int firstNode, long[][] items) {
            this.number = number;
            this.firstNode = firstNode;
            this.items = items;
        }
    }

    private static final class Version {
        int parent;
        int time;
        boolean letGo;
        final List<Chunk> chunks = new ArrayList<>();

        long item(int node, int place) {
            for (Chunk c : chunks) {
                if (node >= c.firstNode && node < c.firstNode + c.items.length) {
                    return c.items[node - c.firstNode][place];
                }
            }
            throw new IllegalStateException("no chunk has node " + node);
        }
    }

    /** An ITEM and what it is on two sides; place below n: an ARC, n and n + 1: COLUMNS. */
    private record Row(int node, int place, long a, long b) { }

    private static final class Model {
        int n;
        int size;
        int clock;
        int chunksEver;
        List<Version> versions = new ArrayList<>();
        List<Row> rows;
        List<Row> conflicts = List.of();

        Version live(int v) {
            return v < 0 || v >= versions.size() || versions.get(v).letGo ? null : versions.get(v);
        }

        boolean node(int x) {
            return x >= 0 && x < n;
        }

        int graph(int newN, int newSize) {
            if (newN < 1 || newN > 64 || newSize < 1 || newSize > 64) {
                return BAD;
            }
            n = newN;
            size = newSize;
            chunksEver = 0;
            versions = new ArrayList<>();
            rows = null;
            conflicts = List.of();
            Version zero = new Version();
            zero.parent = NONE;
            zero.time = clock;
            for (int first = 0; first < n; first += size) {
                zero.chunks.add(new Chunk(chunksEver++, first, new long[Math.min(size, n - first)][n + 2]));
            }
            versions.add(zero);
            return zero.chunks.size();
        }

        int add(Version v, int parent) {
            v.parent = parent;
            v.time = clock;
            versions.add(v);
            return versions.size() - 1;
        }

        int change(int version, int node, int place, long value) {
            if (versions.size() == 60) {
                return FULL;
            }
            Version old = live(version);
            Version made = new Version();
            for (Chunk c : old.chunks) {
                boolean inside = node >= c.firstNode && node < c.firstNode + c.items.length;
                if (!inside || c.items[node - c.firstNode][place] == value) {
                    made.chunks.add(c);
                    continue;
                }
                long[][] items = copy(c.items);
                items[node - c.firstNode][place] = value;
                made.chunks.add(new Chunk(chunksEver++, c.firstNode, items));
            }
            return add(made, version);
        }

        int arcChange(int version, int from, int to, long there) {
            if (live(version) == null || !node(from) || !node(to)) {
                return BAD;
            }
            return live(version).item(from, to) == there ? NO : change(version, from, to, there);
        }

        int set(int version, int column, int node, long v) {
            if (live(version) == null || column < 0 || column > 1 || !node(node)) {
                return BAD;
            }
            return change(version, node, n + column, v);
        }

        int has(int version, int from, int to) {
            return live(version) == null || !node(from) || !node(to) ? BAD : (int) live(version).item(from, to);
        }

        long at(int version, int column, int node) {
            boolean wrong = live(version) == null || column < 0 || column > 1 || !node(node);
            return wrong ? 0 : live(version).item(node, n + column);
        }

        int arc(int version, int k, int what) {
            if (live(version) == null || what < 0 || what > 1) {
                return BAD;
            }
            int seen = 0;
            for (int from = 0; from < n; from++) {
                for (int to = 0; to < n; to++) {
                    if (live(version).item(from, to) == 1 && seen++ == k) {
                        return what == 0 ? from : to;
                    }
                }
            }
            return NONE;
        }

        int reach(int version, int from, int to) {
            if (live(version) == null || !node(from) || !node(to)) {
                return BAD;
            }
            int[] far = new int[n];
            java.util.Arrays.fill(far, NONE);
            far[from] = 0;
            ArrayDeque<Integer> queue = new ArrayDeque<>();
            queue.add(from);
            while (!queue.isEmpty()) {
                int here = queue.remove();
                for (int next = 0; next < n; next++) {
                    if (far[next] == NONE && live(version).item(here, next) == 1) {
                        far[next] = far[here] + 1;
                        queue.add(next);
                    }
                }
            }
            return far[to];
        }

        int compare(int a, int b) {
            if (live(a) == null || live(b) == null) {
                return BAD;
            }
            rows = new ArrayList<>();
            for (int node = 0; node < n; node++) {
                for (int place = 0; place < n + 2; place++) {
                    long inA = live(a).item(node, place);
                    long inB = live(b).item(node, place);
                    if (inA != inB) {
                        rows.add(new Row(node, place, inA, inB));
                    }
                }
            }
            return rows.size();
        }

        int tell(List<Row> list, int k, int what) {
            if (list == null || k < 0 || k >= list.size() || what < 0 || what > 1) {
                return NONE;
            }
            Row r = list.get(k);
            if (what == 0) {
                return r.node;
            }
            return r.place < n ? r.place : -1 - (r.place - n);
        }

        long was(int k, int side) {
            if (rows == null || k < 0 || k >= rows.size() || side < 0 || side > 1) {
                return 0;
            }
            return side == 0 ? rows.get(k).a : rows.get(k).b;
        }

        int turn(int version) {
            Version old = live(version);
            if (old == null) {
                return BAD;
            }
            if (rows == null) {
                return NO;
            }
            for (Row r : rows) {
                long is = old.item(r.node, r.place);
                if (is != r.a && is != r.b) {
                    return NO;
                }
            }
            if (versions.size() == 60) {
                return FULL;
            }
            Version made = new Version();
            for (Chunk c : old.chunks) {
                long[][] items = copy(c.items);
                for (Row r : rows) {
                    if (r.node >= c.firstNode && r.node < c.firstNode + items.length) {
                        items[r.node - c.firstNode][r.place] = r.b;
                    }
                }
                boolean alike = java.util.Arrays.deepEquals(items, c.items);
                made.chunks.add(alike ? c : new Chunk(chunksEver++, c.firstNode, items));
            }
            return add(made, version);
        }

        int join(int base, int a, int b) {
            Version o = live(base);
            Version x = live(a);
            Version y = live(b);
            if (o == null || x == null || y == null) {
                return BAD;
            }
            List<Row> found = new ArrayList<>();
            long[][] joined = new long[n][n + 2];
            for (int node = 0; node < n; node++) {
                for (int place = 0; place < n + 2; place++) {
                    long inBase = o.item(node, place);
                    long inA = x.item(node, place);
                    long inB = y.item(node, place);
                    if (inA == inBase) {
                        joined[node][place] = inB;
                    } else if (inB == inBase || inA == inB) {
                        joined[node][place] = inA;
                    } else {
                        found.add(new Row(node, place, inA, inB));
                    }
                }
            }
            if (!found.isEmpty()) {
                conflicts = found;
                return -10 - found.size();
            }
            if (versions.size() == 60) {
                return FULL;
            }
            Version made = new Version();
            for (int k = 0; k < o.chunks.size(); k++) {
                made.chunks.add(joinChunk(joined, o.chunks.get(k), x.chunks.get(k), y.chunks.get(k)));
            }
            return add(made, a);
        }

        Chunk joinChunk(long[][] joined, Chunk o, Chunk x, Chunk y) {
            if (x == o) {
                return y;
            }
            if (y == o || y == x) {
                return x;
            }
            long[][] items = new long[o.items.length][];
            for (int i = 0; i < items.length; i++) {
                items[i] = joined[o.firstNode + i];
            }
            for (Chunk c : List.of(x, y, o)) {
                if (java.util.Arrays.deepEquals(items, c.items)) {
                    return c;
                }
            }
            return new Chunk(chunksEver++, o.firstNode, items);
        }

        Set<Integer> heldChunks() {
            Set<Integer> held = new HashSet<>();
            for (Version v : versions) {
                if (!v.letGo) {
                    for (Chunk c : v.chunks) {
                        held.add(c.number);
                    }
                }
            }
            return held;
        }

        int letGo(int version) {
            if (live(version) == null || version == 0) {
                return BAD;
            }
            int before = heldChunks().size();
            live(version).letGo = true;
            return before - heldChunks().size();
        }

        int chunk(int version, int k) {
            if (live(version) == null) {
                return BAD;
            }
            List<Chunk> chunks = live(version).chunks;
            return k < 0 || k >= chunks.size() ? NONE : chunks.get(k).number;
        }

        int shared(int a, int b) {
            if (live(a) == null || live(b) == null) {
                return BAD;
            }
            Set<Chunk> common = new HashSet<>(live(a).chunks);
            common.retainAll(live(b).chunks);
            return common.size();
        }

        int parent(int version) {
            return version < 0 || version >= versions.size() ? BAD : versions.get(version).parent;
        }

        int ancestor(int a, int b) {
            if (a < 0 || a >= versions.size() || b < 0 || b >= versions.size()) {
                return BAD;
            }
            Set<Integer> origins = new HashSet<>();
            for (int v = a; v != NONE; v = versions.get(v).parent) {
                origins.add(v);
            }
            int latest = NONE;
            for (int v = b; v != NONE; v = versions.get(v).parent) {
                latest = origins.contains(v) ? Math.max(latest, v) : latest;
            }
            return latest;
        }

        int time(int t) {
            int latest = NONE;
            for (int v = 0; v < versions.size(); v++) {
                if (!versions.get(v).letGo && versions.get(v).time <= t) {
                    latest = v;
                }
            }
            return latest;
        }

        int clockTo(int t) {
            if (t < clock) {
                return BAD;
            }
            int before = clock;
            clock = t;
            return before;
        }

        int count(int what) {
            switch (what) {
                case 0: return n;
                case 1: return versions.size();
                case 2: return (int) versions.stream().filter(v -> !v.letGo).count();
                case 3: return chunksEver;
                case 4: return heldChunks().size();
                case 5: return rows == null ? 0 : rows.size();
                case 6: return conflicts.size();
                case 7: return clock;
                default: return BAD;
            }
        }

        static long[][] copy(long[][] items) {
            long[][] made = new long[items.length][];
            for (int i = 0; i < items.length; i++) {
                made[i] = items[i].clone();
            }
            return made;
        }
    }

    private static int wrong = 0;
    private final Random random;
    private final int mostNodes;
    private final int run;
    private final VersionChunks x = new VersionChunks();
    private final Model m = new Model();
    private int calls = 0;

    private ModelTests(int run, int mostNodes) {
        this.run = run;
        this.mostNodes = mostNodes;
        this.random = new Random(run);
    }

    private int below(int end) {
        return random.nextInt(end);
    }

    /** Now and then a number that no promise takes. */
    private int orWild(int number) {
        int[] wild = {-1, -2, 64, 65, 60, Integer.MIN_VALUE, Integer.MAX_VALUE, m.n, m.versions.size()};
        return below(25) == 0 ? wild[below(wild.length)] : number;
    }

    private int someVersion() {
        int ever = Math.max(1, m.versions.size());
        // Late ones more often, so that long chains of VERSIONS come about beside the branches.
        int late = Math.max(0, ever - 1 - below(4));
        return orWild(below(2) == 0 ? late : below(ever));
    }

    private int someNode() {
        return orWild(below(Math.max(1, m.n)));
    }

    private int someK(List<Row> list) {
        return orWild(below(2 + (list == null ? 0 : list.size())));
    }

    /** Each answer is one call on the object, of which it has 512. */
    private void due(String call, long got, long want) {
        calls++;
        if (got != want) {
            wrong++;
            if (wrong < 40) {
                System.out.println("run " + run + ": " + call + " answered " + got + ", due is " + want);
            }
        }
    }

    private void newGraph() {
        int n = orWild(1 + below(mostNodes));
        int size = orWild(1 + below(Math.max(1, Math.min(n + 2, 64))));
        due("graph(" + n + ", " + size + ")", x.graph(n, size), m.graph(n, size));
    }

    private void makeOne() {
        int v = someVersion();
        int p = someNode();
        int q = someNode();
        switch (below(8)) {
            case 0:
            case 1:
                due("put(" + v + ", " + p + ", " + q + ")", x.put(v, p, q), m.arcChange(v, p, q, 1));
                break;
            case 2: {
                // A way to find an ARC that is there, which chance alone would seldom hit.
                int k = below(6);
                int from = m.arc(v, k, 0);
                int to = m.arc(v, k, 1);
                due("take(" + v + ", " + from + ", " + to + ")", x.take(v, from, to), m.arcChange(v, from, to, 0));
                break;
            }
            case 3:
                due("take(" + v + ", " + p + ", " + q + ")", x.take(v, p, q), m.arcChange(v, p, q, 0));
                break;
            case 4:
            case 5: {
                int column = orWild(below(2));
                long value = VALUES[below(VALUES.length)];
                due("set(" + v + ", " + column + ", " + p + ", " + value + ")", x.set(v, column, p, value),
                    m.set(v, column, p, value));
                break;
            }
            case 6:
                due("turn(" + v + ")", x.turn(v), m.turn(v));
                break;
            default: {
                int a = someVersion();
                int b = someVersion();
                due("join(" + v + ", " + a + ", " + b + ")", x.join(v, a, b), m.join(v, a, b));
            }
        }
    }

    private void askItems() {
        int v = someVersion();
        int p = someNode();
        int q = someNode();
        int bit = orWild(below(2));
        int k = orWild(below(8));
        switch (below(5)) {
            case 0: due("has(" + v + ", " + p + ", " + q + ")", x.has(v, p, q), m.has(v, p, q)); break;
            case 1: due("at(" + v + ", " + bit + ", " + p + ")", x.at(v, bit, p), m.at(v, bit, p)); break;
            case 2: due("arc(" + v + ", " + k + ", " + bit + ")", x.arc(v, k, bit), m.arc(v, k, bit)); break;
            case 3: due("reach(" + v + ", " + p + ", " + q + ")", x.reach(v, p, q), m.reach(v, p, q)); break;
            default: due("chunk(" + v + ", " + k + ")", x.chunk(v, k), m.chunk(v, k));
        }
    }

    private void askOthers() {
        int v = someVersion();
        int w = someVersion();
        int bit = orWild(below(2));
        int k = someK(m.rows);
        int c = someK(m.conflicts);
        int t = orWild(m.clock - 3 + below(6));
        int what = orWild(below(8));
        switch (below(10)) {
            case 0: due("rows(" + v + ", " + w + ")", x.rows(v, w), m.compare(v, w)); break;
            case 1: due("row(" + k + ", " + bit + ")", x.row(k, bit), m.tell(m.rows, k, bit)); break;
            case 2: due("was(" + k + ", " + bit + ")", x.was(k, bit), m.was(k, bit)); break;
            case 3: due("conflict(" + c + ", " + bit + ")", x.conflict(c, bit), m.tell(m.conflicts, c, bit)); break;
            case 4: due("shared(" + v + ", " + w + ")", x.shared(v, w), m.shared(v, w)); break;
            case 5: due("parent(" + v + ")", x.parent(v), m.parent(v)); break;
            case 6: due("ancestor(" + v + ", " + w + ")", x.ancestor(v, w), m.ancestor(v, w)); break;
            case 7: due("time(" + t + ")", x.time(t), m.time(t)); break;
            case 8: due("count(" + what + ")", x.count(what), m.count(what)); break;
            default: due("letGo(" + v + ")", x.letGo(v), m.letGo(v));
        }
    }

    private void moveClock() {
        int t = m.clock - 1 + below(4);
        due("clock(" + t + ")", x.clock(t), m.clockTo(t));
    }

    /** Each ITEM and CHUNK at the end, from some VERSION on, for as many calls as the object has left. */
    private void compareAll() {
        for (int what = 0; what < 8; what++) {
            due("at the end count(" + what + ")", x.count(what), m.count(what));
        }
        int ever = m.versions.size();
        int first = below(Math.max(1, ever));
        for (int i = 0; i < ever; i++) {
            for (int node = 0; node < m.n && calls + m.n + 3 <= CALLS; node++) {
                compareNode((first + i) % ever, node);
            }
        }
    }

    private void compareNode(int v, int node) {
        for (int to = 0; to < m.n; to++) {
            due("at the end has(" + v + ", " + node + ", " + to + ")", x.has(v, node, to), m.has(v, node, to));
        }
        due("at the end at(" + v + ", 0, " + node + ")", x.at(v, 0, node), m.at(v, 0, node));
        due("at the end at(" + v + ", 1, " + node + ")", x.at(v, 1, node), m.at(v, 1, node));
        due("at the end chunk(" + v + ", " + node + ")", x.chunk(v, node), m.chunk(v, node));
    }

    private void oneCall() {
        int dice = below(200);
        if (dice == 0 || calls == 1) {
            newGraph();
        } else if (dice < 60) {
            makeOne();
        } else if (dice < 120) {
            askItems();
        } else if (dice < 190) {
            askOthers();
        } else {
            moveClock();
        }
    }

    private void go() {
        // Every other run goes on to the last call that is promised; the others leave some to compare the end.
        int end = run % 2 == 0 ? CALLS : CALLS / 2;
        while (calls < end) {
            oneCall();
        }
        if (end < CALLS) {
            compareAll();
        }
    }

    public static void main(String[] args) {
        for (int run = 0; run < 1200; run++) {
            new ModelTests(run, run % 20 < 2 ? 64 : 1 + run % 7).go();
        }
        System.out.println(wrong == 0 ? "the model agrees" : wrong + " answers are not the model's");
        if (wrong != 0) {
            System.exit(1);
        }
    }
}
