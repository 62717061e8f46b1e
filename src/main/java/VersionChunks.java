/**
 * Versions of a graph with columns, by the promises of DOC.md.
 *
 * Each VERSION holds all its ITEMS flat, beside the numbers of its CHUNKS: the objects of all VERSIONS are made
 * once and serve every later GRAPH too, so that no run of calls needs more room than 60 of them.
 */
public final class VersionChunks {
    public static final int BAD = -1, NO = -2, FULL = -3, NONE = -99999999;

    private static final int MOST_NODES = 64;
    private static final int MOST_VERSIONS = 60;
    private static final int COLUMNS = 2;
    /** How many ITEMS a NODE can have: a place below MOST_NODES is an ARC's, the others are COLUMNS'. */
    private static final int PLACES = MOST_NODES + COLUMNS;
    /** An answer of join() that tells CONFLICTS lies below this, apart from BAD and FULL. */
    private static final int CONFLICTS_BELOW = -10;

    private final Version[] versions;
    private final ItemSet unlike;
    private final ItemSet conflicts;
    /** The two of the latest rows(), null before one; they may be let go by now, their ITEMS still stand. */
    private Version comparedA;
    private Version comparedB;

    private int nodes;
    private int chunkSize;
    private int chunksEach;
    private int versionsEver;
    private int versionsLetGo;
    private int chunksEver;
    private int chunksGone;
    private int now;

    public VersionChunks() {
        versions = new Version[MOST_VERSIONS];
        unlike = new ItemSet();
        conflicts = new ItemSet();
        chunkSize = 1;
    }

    public int graph(int n, int size) {
        if (n < 1 || n > MOST_NODES || size < 1 || size > MOST_NODES) {
            return BAD;
        }
        nodes = n;
        chunkSize = size;
        chunksEach = (n + size - 1) / size;
        unlike.clear();
        conflicts.clear();
        comparedA = null;
        comparedB = null;
        versionsEver = 0;
        versionsLetGo = 0;
        chunksEver = 0;
        chunksGone = 0;
        makeFirst();
        return chunksEach;
    }

    public int clock(int t) {
        if (t < now) {
            return BAD;
        }
        int before = now;
        now = t;
        return before;
    }

    public int put(int version, int from, int to) {
        return changeArc(version, from, to, true);
    }

    public int take(int version, int from, int to) {
        return changeArc(version, from, to, false);
    }

    public int set(int version, int column, int node, long v) {
        Version old = living(version);
        if (old == null || !isColumn(column) || !isNode(node)) {
            return BAD;
        }
        Version made = makeFrom(old);
        if (made == null) {
            return FULL;
        }
        if (old.numberAt(node, column) != v) {
            made.numbers[node * COLUMNS + column] = v;
            made.chunks[chunkOfNode(node)] = nextChunk();
        }
        return made.number;
    }

    public int has(int version, int from, int to) {
        Version asked = living(version);
        if (asked == null || !isNode(from) || !isNode(to)) {
            return BAD;
        }
        return asked.leads(from, to) ? 1 : 0;
    }

    public long at(int version, int column, int node) {
        Version asked = living(version);
        if (asked == null || !isColumn(column) || !isNode(node)) {
            return 0;
        }
        return asked.numberAt(node, column);
    }

    public int arc(int version, int k, int what) {
        Version asked = living(version);
        if (asked == null || what < 0 || what > 1) {
            return BAD;
        }
        if (k < 0) {
            return NONE;
        }
        int left = k;
        for (int node = 0; node < nodes; node++) {
            int here = Long.bitCount(asked.arcs[node]);
            if (left < here) {
                return what == 0 ? node : placeOfBit(asked.arcs[node], left);
            }
            left -= here;
        }
        return NONE;
    }

    public int reach(int version, int from, int to) {
        Version asked = living(version);
        if (asked == null || !isNode(from) || !isNode(to)) {
            return BAD;
        }
        // A shortest way meets no NODE twice, so it has fewer ARCS than there are NODES.
        long reached = 1L << from;
        for (int steps = 0; steps < nodes; steps++) {
            if (isBitSet(reached, to)) {
                return steps;
            }
            reached |= ledToFrom(asked, reached);
        }
        return NONE;
    }

    public int rows(int a, int b) {
        Version first = living(a);
        Version second = living(b);
        if (first == null || second == null) {
            return BAD;
        }
        comparedA = first;
        comparedB = second;
        unlike.clear();
        for (int node = 0; node < nodes; node++) {
            unlike.addArcs(node, first.arcs[node] ^ second.arcs[node]);
            for (int column = 0; column < COLUMNS; column++) {
                if (first.numberAt(node, column) != second.numberAt(node, column)) {
                    unlike.addColumn(node, column);
                }
            }
        }
        return unlike.many;
    }

    public int row(int k, int what) {
        return tellItem(unlike.find(k), what);
    }

    public long was(int k, int side) {
        int item = unlike.find(k);
        Version asked = side == 0 ? comparedA : comparedB;
        if (item < 0 || asked == null || side < 0 || side > 1) {
            return 0;
        }
        int node = item / PLACES;
        int place = item % PLACES;
        if (place >= MOST_NODES) {
            return asked.numberAt(node, place - MOST_NODES);
        }
        return asked.leads(node, place) ? 1 : 0;
    }

    public int turn(int version) {
        Version old = living(version);
        if (old == null) {
            return BAD;
        }
        if (comparedA == null || comparedB == null || !canTurn(old, comparedA, comparedB)) {
            return NO;
        }
        Version made = makeFrom(old);
        if (made == null) {
            return FULL;
        }
        turnItems(made, comparedB);
        for (int k = 0; k < chunksEach; k++) {
            if (!isChunkAlike(made, old, k)) {
                made.chunks[k] = nextChunk();
            }
        }
        return made.number;
    }

    public int join(int base, int a, int b) {
        Version origin = living(base);
        Version first = living(a);
        Version second = living(b);
        if (origin == null || first == null || second == null) {
            return BAD;
        }
        if (hasConflict(origin, first, second)) {
            tellConflicts(origin, first, second);
            return CONFLICTS_BELOW - conflicts.many;
        }
        Version made = makeFrom(first);
        if (made == null) {
            return FULL;
        }
        joinItems(made, origin, second);
        for (int k = 0; k < chunksEach; k++) {
            made.chunks[k] = chooseJoinedChunk(made, origin, first, second, k);
        }
        return made.number;
    }

    public int conflict(int k, int what) {
        return tellItem(conflicts.find(k), what);
    }

    public int letGo(int version) {
        Version old = living(version);
        if (old == null || version == 0) {
            return BAD;
        }
        old.isLetGo = true;
        versionsLetGo++;
        int gone = 0;
        for (int k = 0; k < chunksEach; k++) {
            if (!isChunkHeld(k, old.chunks[k])) {
                gone++;
            }
        }
        chunksGone += gone;
        return gone;
    }

    public int chunk(int version, int k) {
        Version asked = living(version);
        if (asked == null) {
            return BAD;
        }
        return k < 0 || k >= chunksEach ? NONE : asked.chunks[k];
    }

    public int shared(int a, int b) {
        Version first = living(a);
        Version second = living(b);
        if (first == null || second == null) {
            return BAD;
        }
        // A CHUNK stands at one k alone, so those in common are those alike at the same k.
        int common = 0;
        for (int k = 0; k < chunksEach; k++) {
            if (first.chunks[k] == second.chunks[k]) {
                common++;
            }
        }
        return common;
    }

    public int parent(int version) {
        Version asked = everMade(version);
        return asked == null ? BAD : asked.parentNumber;
    }

    public int ancestor(int a, int b) {
        if (everMade(a) == null || everMade(b) == null) {
            return BAD;
        }
        int first = a;
        int second = b;
        // A PARENT's number is the lesser one: of two unlike numbers the greater is no origin of the other.
        for (int steps = 0; first != second && steps < 2 * MOST_VERSIONS; steps++) {
            if (first > second) {
                first = parentOf(first);
            } else {
                second = parentOf(second);
            }
        }
        return first;
    }

    public int time(int t) {
        for (int number = versionsEver - 1; number >= 0; number--) {
            Version asked = living(number);
            if (asked != null && asked.madeAt <= t) {
                return number;
            }
        }
        return NONE;
    }

    public int count(int what) {
        switch (what) {
            case 0:
                return nodes;
            case 1:
                return versionsEver;
            case 2:
                return versionsEver - versionsLetGo;
            case 3:
                return chunksEver;
            case 4:
                return chunksEver - chunksGone;
            case 5:
                return unlike.many;
            case 6:
                return conflicts.many;
            case 7:
                return now;
            default:
                return BAD;
        }
    }

    private boolean isNode(int node) {
        return node >= 0 && node < nodes;
    }

    private static boolean isColumn(int column) {
        return column >= 0 && column < COLUMNS;
    }

    private static boolean isBitSet(long bits, int place) {
        return (bits >>> place & 1L) == 1L;
    }

    /** The place of the k-th bit that is set, from the lowest on; -1 where there are not so many. */
    private static int placeOfBit(long bits, int k) {
        int left = k;
        for (int place = 0; place < MOST_NODES; place++) {
            if (isBitSet(bits, place)) {
                if (left == 0) {
                    return place;
                }
                left--;
            }
        }
        return -1;
    }

    private Version everMade(int number) {
        return number < 0 || number >= versionsEver || number >= MOST_VERSIONS ? null : versions[number];
    }

    private Version living(int number) {
        Version asked = everMade(number);
        return asked == null || asked.isLetGo ? null : asked;
    }

    private int parentOf(int number) {
        Version child = everMade(number);
        return child == null ? 0 : child.parentNumber;
    }

    private int chunkOfNode(int node) {
        return chunkSize < 1 ? 0 : node / chunkSize;
    }

    private int nextChunk() {
        int number = chunksEver;
        chunksEver++;
        return number;
    }

    /** The object for the next VERSION; null if there is no room for one more. */
    private Version takeRoom() {
        if (versionsEver >= MOST_VERSIONS) {
            return null;
        }
        Version made = versions[versionsEver];
        if (made == null) {
            made = new Version();
            versions[versionsEver] = made;
        }
        made.number = versionsEver;
        made.madeAt = now;
        made.isLetGo = false;
        versionsEver++;
        return made;
    }

    /** Its ITEMS need no clearing: the object of VERSION 0 serves as that alone, and no VERSION ever changes. */
    private void makeFirst() {
        Version made = takeRoom();
        if (made == null) {
            return;
        }
        made.parentNumber = NONE;
        for (int k = 0; k < chunksEach; k++) {
            made.chunks[k] = nextChunk();
        }
    }

    /** A VERSION that is as its PARENT still, CHUNKS and all; null if there is no room. */
    private Version makeFrom(Version old) {
        Version made = takeRoom();
        if (made != null) {
            made.copyItems(old);
            made.parentNumber = old.number;
        }
        return made;
    }

    private int changeArc(int version, int from, int to, boolean there) {
        Version old = living(version);
        if (old == null || !isNode(from) || !isNode(to)) {
            return BAD;
        }
        if (old.leads(from, to) == there) {
            return NO;
        }
        Version made = makeFrom(old);
        if (made == null) {
            return FULL;
        }
        made.arcs[from] ^= 1L << to;
        made.chunks[chunkOfNode(from)] = nextChunk();
        return made.number;
    }

    private long ledToFrom(Version asked, long starts) {
        long ends = 0;
        for (int node = 0; node < nodes; node++) {
            if (isBitSet(starts, node)) {
                ends |= asked.arcs[node];
            }
        }
        return ends;
    }

    private static int tellItem(int item, int what) {
        if (item < 0 || what < 0 || what > 1) {
            return NONE;
        }
        if (what == 0) {
            return item / PLACES;
        }
        int place = item % PLACES;
        return place < MOST_NODES ? place : -1 - (place - MOST_NODES);
    }

    /** Only COLUMNS are asked: an ARC that is unlike in a and b is always as in one of them. */
    private boolean canTurn(Version old, Version a, Version b) {
        for (int i = 0; i < nodes * COLUMNS; i++) {
            boolean isRow = a.numbers[i] != b.numbers[i];
            if (isRow && old.numbers[i] != a.numbers[i] && old.numbers[i] != b.numbers[i]) {
                return false;
            }
        }
        return true;
    }

    private void turnItems(Version made, Version b) {
        for (int node = 0; node < nodes; node++) {
            long rowArcs = unlike.arcs[node];
            made.arcs[node] = made.arcs[node] & ~rowArcs | b.arcs[node] & rowArcs;
            for (int column = 0; column < COLUMNS; column++) {
                if (isBitSet(unlike.columns[node], column)) {
                    made.numbers[node * COLUMNS + column] = b.numberAt(node, column);
                }
            }
        }
    }

    private boolean isChunkAlike(Version one, Version other, int k) {
        int end = Math.min(nodes, k * chunkSize + chunkSize);
        for (int node = k * chunkSize; node < end; node++) {
            if (one.arcs[node] != other.arcs[node]) {
                return false;
            }
            for (int column = 0; column < COLUMNS; column++) {
                if (one.numberAt(node, column) != other.numberAt(node, column)) {
                    return false;
                }
            }
        }
        return true;
    }

    /** Of an ARC there is no CONFLICT: where a and b are both unlike the base, they are alike. */
    private static boolean isConflict(Version base, Version a, Version b, int i) {
        long from = base.numbers[i];
        return a.numbers[i] != from && b.numbers[i] != from && a.numbers[i] != b.numbers[i];
    }

    private boolean hasConflict(Version base, Version a, Version b) {
        for (int i = 0; i < nodes * COLUMNS; i++) {
            if (isConflict(base, a, b, i)) {
                return true;
            }
        }
        return false;
    }

    private void tellConflicts(Version base, Version a, Version b) {
        conflicts.clear();
        for (int node = 0; node < nodes; node++) {
            for (int column = 0; column < COLUMNS; column++) {
                if (isConflict(base, a, b, node * COLUMNS + column)) {
                    conflicts.addColumn(node, column);
                }
            }
        }
    }

    /** The VERSION made is as a still; what it has as in the base becomes as in b. */
    private void joinItems(Version made, Version base, Version b) {
        for (int node = 0; node < nodes; node++) {
            long changed = made.arcs[node] ^ base.arcs[node];
            made.arcs[node] = made.arcs[node] & changed | b.arcs[node] & ~changed;
        }
        for (int i = 0; i < nodes * COLUMNS; i++) {
            if (made.numbers[i] == base.numbers[i]) {
                made.numbers[i] = b.numbers[i];
            }
        }
    }

    private int chooseJoinedChunk(Version made, Version base, Version a, Version b, int k) {
        int inBase = base.chunks[k];
        int inA = a.chunks[k];
        int inB = b.chunks[k];
        if (inA == inBase) {
            return inB;
        }
        if (inB == inBase || inB == inA || isChunkAlike(made, a, k)) {
            return inA;
        }
        if (isChunkAlike(made, b, k)) {
            return inB;
        }
        // What is joined is as in the base only where a and b are, too: then a's CHUNK was chosen above.
        return nextChunk();
    }

    private boolean isChunkHeld(int k, int chunkNumber) {
        for (int number = 0; number < versionsEver; number++) {
            Version holder = living(number);
            if (holder != null && holder.chunks[k] == chunkNumber) {
                return true;
            }
        }
        return false;
    }

    /** A VERSION; what it holds stays when it is let go, for the latest rows() may still need it. */
    private static final class Version {
        private int number;
        private int parentNumber;
        private int madeAt;
        private boolean isLetGo;
        /** Of each NODE, a bit for each NODE to which an ARC leads. */
        private final long[] arcs = new long[MOST_NODES];
        /** By NODES, of each NODE by COLUMNS. */
        private final long[] numbers = new long[MOST_NODES * COLUMNS];
        private final int[] chunks = new int[MOST_NODES];

        private boolean leads(int from, int to) {
            return isBitSet(arcs[from], to);
        }

        private long numberAt(int node, int column) {
            return numbers[node * COLUMNS + column];
        }

        private void copyItems(Version old) {
            System.arraycopy(old.arcs, 0, arcs, 0, MOST_NODES);
            System.arraycopy(old.numbers, 0, numbers, 0, MOST_NODES * COLUMNS);
            System.arraycopy(old.chunks, 0, chunks, 0, MOST_NODES);
        }
    }

    /** Some of the ITEMS, in their order; the ROWS and the CONFLICTS are such. */
    private static final class ItemSet {
        private int many;
        private final long[] arcs = new long[MOST_NODES];
        private final long[] columns = new long[MOST_NODES];

        private void clear() {
            many = 0;
            for (int node = 0; node < MOST_NODES; node++) {
                arcs[node] = 0;
                columns[node] = 0;
            }
        }

        /** Each ITEM is added once at most: `many` counts what is added. */
        private void addArcs(int node, long ends) {
            arcs[node] |= ends;
            many += Long.bitCount(ends);
        }

        private void addColumn(int node, int column) {
            columns[node] |= 1L << column;
            many++;
        }

        /** The k-th ITEM as its NODE times PLACES and its place; -1: none such. */
        private int find(int k) {
            if (k < 0 || k >= many) {
                return -1;
            }
            int left = k;
            for (int node = 0; node < MOST_NODES; node++) {
                int arcsHere = Long.bitCount(arcs[node]);
                if (left < arcsHere) {
                    return node * PLACES + placeOfBit(arcs[node], left);
                }
                left -= arcsHere;
                int columnsHere = Long.bitCount(columns[node]);
                if (left < columnsHere) {
                    return node * PLACES + MOST_NODES + placeOfBit(columns[node], left);
                }
                left -= columnsHere;
            }
            return -1;
        }
    }
}
