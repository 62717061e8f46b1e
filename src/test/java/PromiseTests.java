/** For each promise of DOC.md: ordinary inputs, the edges that it names, and wrong inputs. */
public final class PromiseTests {
    private static final int BAD = -1, NO = -2, FULL = -3, NONE = -99999999;
    private static final int LEAST = Integer.MIN_VALUE, MOST = Integer.MAX_VALUE;

    private static int wrong = 0;
    private static int promise = 0;

    private static void due(String call, long got, long want) {
        if (got != want) {
            wrong++;
            System.out.println("promise " + promise + ": " + call + " answered " + got + ", due is " + want);
        }
    }

    private static void dueCounts(VersionChunks x, long... want) {
        for (int what = 0; what < want.length; what++) {
            due("count(" + what + ")", x.count(what), want[what]);
        }
    }

    private static void dueChunks(VersionChunks x, int version, int... want) {
        for (int k = 0; k < want.length; k++) {
            due("chunk(" + version + ", " + k + ")", x.chunk(version, k), want[k]);
        }
        due("chunk(" + version + ", " + want.length + ")", x.chunk(version, want.length), NONE);
    }

    private static VersionChunks made(int n, int size) {
        VersionChunks x = new VersionChunks();
        x.graph(n, size);
        return x;
    }

    /** Sets numbers on VERSION 0 until there is no room for one more VERSION. */
    private static void fill(VersionChunks x) {
        for (int i = x.count(1); i < 60; i++) {
            due("set(0, 0, 0, " + i + ") on the way to FULL", x.set(0, 0, 0, i), i);
        }
    }

    public static void main(String[] args) {
        newObject();
        graph();
        clock();
        put();
        take();
        set();
        has();
        at();
        arc();
        reach();
        rows();
        row();
        was();
        turn();
        turnRefused();
        join();
        joinChunks();
        joinRefused();
        conflict();
        letGo();
        letGoAnswersNoMore();
        chunk();
        shared();
        parent();
        ancestor();
        time();
        count();
        System.out.println(wrong == 0 ? "all promises hold" : wrong + " answers are not as due");
        if (wrong != 0) {
            System.exit(1);
        }
    }

    private static void newObject() {
        promise = 1;
        VersionChunks x = new VersionChunks();
        dueCounts(x, 0, 0, 0, 0, 0, 0, 0, 0);
        due("put", x.put(0, 0, 0), BAD);
        due("take", x.take(0, 0, 0), BAD);
        due("set", x.set(0, 0, 0, 1), BAD);
        due("has", x.has(0, 0, 0), BAD);
        due("at", x.at(0, 0, 0), 0);
        due("arc", x.arc(0, 0, 0), BAD);
        due("reach", x.reach(0, 0, 0), BAD);
        due("rows", x.rows(0, 0), BAD);
        due("row", x.row(0, 0), NONE);
        due("was", x.was(0, 0), 0);
        due("turn", x.turn(0), BAD);
        due("join", x.join(0, 0, 0), BAD);
        due("conflict", x.conflict(0, 0), NONE);
        due("letGo", x.letGo(0), BAD);
        due("chunk", x.chunk(0, 0), BAD);
        due("shared", x.shared(0, 0), BAD);
        due("parent", x.parent(0), BAD);
        due("ancestor", x.ancestor(0, 0), BAD);
        due("time", x.time(MOST), NONE);
        due("clock", x.clock(0), 0);
    }

    private static void graph() {
        promise = 2;
        VersionChunks x = new VersionChunks();
        int[][] wrongOnes = {{0, 1}, {1, 0}, {65, 1}, {1, 65}, {-1, 1}, {1, -1}, {LEAST, 1}, {1, MOST}, {MOST, LEAST}};
        for (int[] w : wrongOnes) {
            due("graph(" + w[0] + ", " + w[1] + ")", x.graph(w[0], w[1]), BAD);
        }
        dueCounts(x, 0, 0, 0, 0, 0, 0, 0, 0);
        due("graph(1, 1)", x.graph(1, 1), 1);
        due("graph(1, 64)", x.graph(1, 64), 1);
        due("graph(64, 1)", x.graph(64, 1), 64);
        due("graph(64, 64)", x.graph(64, 64), 1);
        due("graph(64, 32)", x.graph(64, 32), 2);
        due("graph(64, 33)", x.graph(64, 33), 2);
        due("graph(7, 3)", x.graph(7, 3), 3);
        dueCounts(x, 7, 1, 1, 3, 3, 0, 0, 0);

        x.clock(9);
        x.put(0, 6, 6);
        x.set(1, 1, 5, 8);
        x.set(1, 1, 5, 7);
        x.letGo(1);
        x.rows(0, 2);
        due("join(0, 2, 3)", x.join(0, 2, 3), -11);
        x.letGo(3);
        due("graph(8, 65) BAD", x.graph(8, 65), BAD);
        dueCounts(x, 7, 4, 2, 6, 5, 2, 1, 9);
        due("at stays after BAD", x.at(2, 1, 5), 8);

        due("graph(8, 3)", x.graph(8, 3), 3);
        dueCounts(x, 8, 1, 1, 3, 3, 0, 0, 9);
        dueChunks(x, 0, 0, 1, 2);
        due("row gone", x.row(0, 0), NONE);
        due("was gone", x.was(0, 1), 0);
        due("conflict gone", x.conflict(0, 0), NONE);
        due("turn without rows", x.turn(0), NO);
        due("the old VERSION 2 is no more", x.has(2, 0, 0), BAD);
        due("nor is its PARENT", x.parent(2), BAD);
        due("VERSION 1 is not yet", x.parent(1), BAD);
        due("put makes VERSION 1 anew", x.put(0, 7, 7), 1);
        due("it is not let go", x.has(1, 7, 7), 1);
        due("it has no old ARC", x.has(1, 6, 6), 0);
        due("it has no old number", x.at(1, 1, 5), 0);
        dueChunks(x, 1, 0, 1, 3);
    }

    private static void clock() {
        promise = 3;
        VersionChunks x = new VersionChunks();
        due("clock(-1)", x.clock(-1), BAD);
        due("clock(LEAST)", x.clock(LEAST), BAD);
        due("clock(0)", x.clock(0), 0);
        due("clock(5)", x.clock(5), 0);
        due("clock(4)", x.clock(4), BAD);
        due("clock(5) again", x.clock(5), 5);
        due("count(7)", x.count(7), 5);
        x.graph(2, 1);
        due("a VERSION's TIME, below", x.time(4), NONE);
        due("a VERSION's TIME", x.time(5), 0);
        due("clock(MOST)", x.clock(MOST), 5);
        due("clock(MOST - 1)", x.clock(MOST - 1), BAD);
        due("clock(MOST) again", x.clock(MOST), MOST);
    }

    private static void put() {
        promise = 4;
        VersionChunks x = made(64, 5);
        due("put(0, 63, 63)", x.put(0, 63, 63), 1);
        due("put(0, 0, 63)", x.put(0, 0, 63), 2);
        due("put(2, 63, 0)", x.put(2, 63, 0), 3);
        due("has(0, 63, 63): VERSION 0 never changes", x.has(0, 63, 63), 0);
        due("has(1, 63, 63)", x.has(1, 63, 63), 1);
        due("has(2, 63, 63)", x.has(2, 63, 63), 0);
        due("has(3, 0, 63)", x.has(3, 0, 63), 1);
        due("has(3, 63, 0)", x.has(3, 63, 0), 1);
        due("put of one that is there", x.put(3, 0, 63), NO);
        due("put, other way round, of one that is there", x.put(2, 0, 63), NO);
        int[][] wrongOnes = {{4, 0, 0}, {-1, 0, 0}, {MOST, 0, 0}, {LEAST, 0, 0}, {60, 0, 0}, {0, 64, 0}, {0, -1, 0},
            {0, 0, 64}, {0, 0, -1}, {0, MOST, MOST}, {0, LEAST, LEAST}};
        for (int[] w : wrongOnes) {
            due("put(" + w[0] + ", " + w[1] + ", " + w[2] + ")", x.put(w[0], w[1], w[2]), BAD);
        }
        dueCounts(x, 64, 4, 4, 16, 16);
        due("parent(3)", x.parent(3), 2);
        fill(x);
        due("put when FULL", x.put(0, 1, 1), FULL);
        due("put when FULL of one that is there", x.put(1, 63, 63), NO);
        due("put when FULL of a wrong one", x.put(1, 63, 64), BAD);
        due("count(1) when FULL", x.count(1), 60);
    }

    private static void take() {
        promise = 5;
        VersionChunks x = made(3, 2);
        x.put(0, 2, 1);
        due("take(1, 2, 1)", x.take(1, 2, 1), 2);
        due("has(2, 2, 1)", x.has(2, 2, 1), 0);
        due("has(1, 2, 1)", x.has(1, 2, 1), 1);
        dueChunks(x, 2, 0, 3);
        due("take of one that is not there", x.take(2, 2, 1), NO);
        due("take the other way round", x.take(1, 1, 2), NO);
        int[][] wrongOnes = {{3, 2, 1}, {-1, 2, 1}, {1, 3, 1}, {1, -1, 1}, {1, 2, 3}, {1, 2, -1}, {1, MOST, LEAST}};
        for (int[] w : wrongOnes) {
            due("take(" + w[0] + ", " + w[1] + ", " + w[2] + ")", x.take(w[0], w[1], w[2]), BAD);
        }
        dueCounts(x, 3, 3, 3, 4, 4);
        fill(x);
        due("take when FULL", x.take(1, 2, 1), FULL);
        due("take when FULL of one that is not there", x.take(0, 2, 1), NO);
        due("take when FULL of a wrong one", x.take(60, 2, 1), BAD);
    }

    private static void set() {
        promise = 6;
        VersionChunks x = made(5, 2);
        due("set(0, 0, 4, MIN)", x.set(0, 0, 4, Long.MIN_VALUE), 1);
        due("set(1, 1, 4, MAX)", x.set(1, 1, 4, Long.MAX_VALUE), 2);
        due("at(2, 0, 4)", x.at(2, 0, 4), Long.MIN_VALUE);
        due("at(2, 1, 4)", x.at(2, 1, 4), Long.MAX_VALUE);
        due("at(1, 1, 4)", x.at(1, 1, 4), 0);
        due("at(0, 0, 4)", x.at(0, 0, 4), 0);
        dueChunks(x, 2, 0, 1, 4);
        due("set to what it is", x.set(2, 1, 4, Long.MAX_VALUE), 3);
        dueChunks(x, 3, 0, 1, 4);
        due("parent of that", x.parent(3), 2);
        int[][] wrongOnes = {{4, 0, 0}, {-1, 0, 0}, {0, 2, 0}, {0, -1, 0}, {0, 0, 5}, {0, 0, -1}, {MOST, LEAST, MOST}};
        for (int[] w : wrongOnes) {
            due("set(" + w[0] + ", " + w[1] + ", " + w[2] + ", 1)", x.set(w[0], w[1], w[2], 1), BAD);
        }
        dueCounts(x, 5, 4, 4, 5, 5);
        fill(x);
        due("set when FULL", x.set(0, 0, 0, -1), FULL);
        due("set when FULL to what it is", x.set(0, 0, 0, 0), FULL);
        due("set when FULL of a wrong one", x.set(0, 2, 0, 0), BAD);
        due("count(3) when FULL", x.count(3), 61);
    }

    private static void has() {
        promise = 7;
        VersionChunks x = made(3, 3);
        x.put(0, 1, 2);
        for (int from = 0; from < 3; from++) {
            for (int to = 0; to < 3; to++) {
                due("has(1, " + from + ", " + to + ")", x.has(1, from, to), from == 1 && to == 2 ? 1 : 0);
            }
        }
        due("has(2, 1, 2)", x.has(2, 1, 2), BAD);
        due("has(-1, 1, 2)", x.has(-1, 1, 2), BAD);
        due("has(1, 3, 2)", x.has(1, 3, 2), BAD);
        due("has(1, -1, 2)", x.has(1, -1, 2), BAD);
        due("has(1, 1, 3)", x.has(1, 1, 3), BAD);
        due("has(1, 1, -1)", x.has(1, 1, -1), BAD);
        due("has(1, 65, 66)", x.has(1, 65, 66), BAD);
    }

    private static void at() {
        promise = 8;
        VersionChunks x = made(3, 1);
        x.set(0, 1, 2, -7);
        due("at(1, 1, 2)", x.at(1, 1, 2), -7);
        due("at(1, 0, 2)", x.at(1, 0, 2), 0);
        due("at(1, 1, 1)", x.at(1, 1, 1), 0);
        due("at(2, 1, 2)", x.at(2, 1, 2), 0);
        due("at(-1, 1, 2)", x.at(-1, 1, 2), 0);
        due("at(1, 3, 1)", x.at(1, 3, 1), 0);
        due("at(1, -1, 3)", x.at(1, -1, 3), 0);
        due("at(1, 1, 3)", x.at(1, 1, 3), 0);
        due("at(1, 1, LEAST)", x.at(1, 1, LEAST), 0);
    }

    private static void arc() {
        promise = 9;
        VersionChunks x = made(64, 10);
        x.put(0, 63, 0);
        x.put(1, 2, 63);
        x.put(2, 2, 5);
        x.put(3, 2, 0);
        int[][] want = {{2, 0}, {2, 5}, {2, 63}, {63, 0}, {NONE, NONE}};
        for (int k = 0; k < want.length; k++) {
            due("arc(4, " + k + ", 0)", x.arc(4, k, 0), want[k][0]);
            due("arc(4, " + k + ", 1)", x.arc(4, k, 1), want[k][1]);
        }
        due("arc(0, 0, 0)", x.arc(0, 0, 0), NONE);
        x.put(0, 0, 0);
        due("arc(5, 0, 0)", x.arc(5, 0, 0), 0);
        due("arc(5, 0, 1)", x.arc(5, 0, 1), 0);
        due("arc(5, 1, 1)", x.arc(5, 1, 1), NONE);
        due("arc(4, -1, 0)", x.arc(4, -1, 0), NONE);
        due("arc(4, LEAST, 1)", x.arc(4, LEAST, 1), NONE);
        due("arc(4, MOST, 1)", x.arc(4, MOST, 1), NONE);
        due("arc(4, 0, 2)", x.arc(4, 0, 2), BAD);
        due("arc(4, 0, -1)", x.arc(4, 0, -1), BAD);
        due("arc(4, 9, 2)", x.arc(4, 9, 2), BAD);
        due("arc(6, 0, 0)", x.arc(6, 0, 0), BAD);
        due("arc(-1, 0, 0)", x.arc(-1, 0, 0), BAD);
    }

    private static void reach() {
        promise = 10;
        VersionChunks x = made(64, 64);
        // The longest way that there can be in the VERSIONS of one GRAPH, backwards through the NODES.
        for (int i = 0; i < 59; i++) {
            x.put(i, 63 - i, 62 - i);
        }
        due("reach(59, 63, 4)", x.reach(59, 63, 4), 59);
        due("reach(59, 63, 3)", x.reach(59, 63, 3), NONE);
        due("reach(58, 63, 4)", x.reach(58, 63, 4), NONE);
        due("reach(59, 4, 63)", x.reach(59, 4, 63), NONE);
        due("reach(59, 10, 9)", x.reach(59, 10, 9), 1);
        due("reach(59, 3, 3)", x.reach(59, 3, 3), 0);
        due("reach(60, 3, 3)", x.reach(60, 3, 3), BAD);
        due("reach(-1, 3, 3)", x.reach(-1, 3, 3), BAD);
        due("reach(0, 64, 64)", x.reach(0, 64, 64), BAD);
        due("reach(0, -1, -1)", x.reach(0, -1, -1), BAD);
        due("reach(0, 0, 64)", x.reach(0, 0, 64), BAD);
        due("reach(0, 0, -1)", x.reach(0, 0, -1), BAD);

        VersionChunks y = made(4, 2);
        y.put(0, 0, 1);
        y.put(1, 1, 2);
        y.put(2, 2, 3);
        due("reach(3, 0, 3): through all NODES", y.reach(3, 0, 3), 3);
        y.put(3, 3, 0);
        due("reach(4, 3, 2): round", y.reach(4, 3, 2), 3);
        due("reach(4, 0, 0): not round", y.reach(4, 0, 0), 0);
        y.put(4, 0, 2);
        due("reach(5, 0, 3): the shorter way", y.reach(5, 0, 3), 2);
        y.put(5, 0, 0);
        due("reach(6, 1, 0)", y.reach(6, 1, 0), 3);
        due("reach(6, 0, 3): an ARC to itself is no help", y.reach(6, 0, 3), 2);
    }

    private static void rows() {
        promise = 11;
        VersionChunks x = made(4, 2);
        x.put(0, 3, 1);
        x.set(1, 1, 3, 5);
        x.put(2, 0, 0);
        due("rows(0, 3)", x.rows(0, 3), 3);
        due("rows(3, 0)", x.rows(3, 0), 3);
        due("rows(1, 2)", x.rows(1, 2), 1);
        due("rows(2, 2)", x.rows(2, 2), 0);
        x.set(3, 1, 3, 6);
        due("rows(3, 4)", x.rows(3, 4), 1);
        due("rows(0, 4)", x.rows(0, 4), 3);
        due("rows(0, 5)", x.rows(0, 5), BAD);
        due("rows(-1, 0)", x.rows(-1, 0), BAD);
        due("rows(MOST, LEAST)", x.rows(MOST, LEAST), BAD);
        due("BAD changes nothing: count(5)", x.count(5), 3);
        due("BAD changes nothing: was(2, 1)", x.was(2, 1), 6);
    }

    private static void row() {
        promise = 12;
        VersionChunks x = made(64, 7);
        due("row(0, 0) before rows()", x.row(0, 0), NONE);
        x.set(0, 1, 1, 4);
        x.set(1, 0, 1, 4);
        x.put(2, 1, 63);
        x.put(3, 1, 0);
        x.put(4, 0, 5);
        x.put(5, 63, 63);
        x.set(6, 1, 63, -1);
        x.rows(0, 7);
        int[][] want = {{0, 5}, {1, 0}, {1, 63}, {1, -1}, {1, -2}, {63, 63}, {63, -2}, {NONE, NONE}};
        for (int k = 0; k < want.length; k++) {
            due("row(" + k + ", 0)", x.row(k, 0), want[k][0]);
            due("row(" + k + ", 1)", x.row(k, 1), want[k][1]);
        }
        due("row(-1, 0)", x.row(-1, 0), NONE);
        due("row(MOST, 0)", x.row(MOST, 0), NONE);
        due("row(0, 2)", x.row(0, 2), NONE);
        due("row(0, -1)", x.row(0, -1), NONE);
        x.rows(0, 1);
        due("row(0, 1) of the latest", x.row(0, 1), -2);
        due("row(1, 1) of the latest", x.row(1, 1), NONE);
        x.rows(1, 1);
        due("row(0, 0) of the latest, without ROWS", x.row(0, 0), NONE);
        x.rows(0, x.put(0, 0, 0));
        due("row(0, 0) of the first ITEM", x.row(0, 0), 0);
        due("row(0, 1) of the first ITEM", x.row(0, 1), 0);
        due("was(0, 1) of the first ITEM", x.was(0, 1), 1);
    }

    private static void was() {
        promise = 13;
        VersionChunks x = made(3, 3);
        x.put(0, 0, 2);
        x.set(1, 0, 0, Long.MIN_VALUE);
        x.set(0, 0, 0, 3);
        x.set(3, 1, 2, 4);
        x.rows(2, 4);
        long[][] want = {{1, 0}, {Long.MIN_VALUE, 3}, {0, 4}, {0, 0}};
        for (int k = 0; k < want.length; k++) {
            due("was(" + k + ", 0)", x.was(k, 0), want[k][0]);
            due("was(" + k + ", 1)", x.was(k, 1), want[k][1]);
        }
        due("was(-1, 0)", x.was(-1, 0), 0);
        due("was(0, -1)", x.was(0, -1), 0);
        due("was(1, 2)", x.was(1, 2), 0);
        due("was(2, 2)", x.was(2, 2), 0);
        due("was(1, LEAST)", x.was(1, LEAST), 0);
        x.letGo(2);
        x.letGo(4);
        due("was(1, 0) when a was let go", x.was(1, 0), Long.MIN_VALUE);
        due("was(2, 1) when b was let go", x.was(2, 1), 4);
    }

    private static void turn() {
        promise = 14;
        VersionChunks x = made(6, 2);
        x.put(0, 0, 1);
        x.set(1, 0, 2, 7);
        x.put(2, 5, 5);
        x.set(0, 1, 2, 8);
        due("rows(0, 3)", x.rows(0, 3), 3);
        x.clock(3);
        due("turn(4)", x.turn(4), 5);
        due("parent(5)", x.parent(5), 4);
        due("its TIME", x.time(2), 4);
        due("has(5, 0, 1)", x.has(5, 0, 1), 1);
        due("has(5, 5, 5)", x.has(5, 5, 5), 1);
        due("at(5, 0, 2)", x.at(5, 0, 2), 7);
        due("at(5, 1, 2) is no ROW", x.at(5, 1, 2), 8);
        dueChunks(x, 5, 7, 8, 9);
        due("VERSION 4 never changes", x.at(4, 0, 2), 0);
        due("turn(1): one ROW is as in b", x.turn(1), 6);
        dueChunks(x, 6, 3, 10, 11);
        due("turn(3): all are as in b", x.turn(3), 7);
        dueChunks(x, 7, 3, 4, 5);
        due("the ROWS stay", x.count(5), 3);

        due("rows(3, 0)", x.rows(3, 0), 3);
        x.letGo(3);
        due("turn(5) back, a is let go", x.turn(5), 8);
        due("rows(4, 8)", x.rows(4, 8), 0);
        due("shared(4, 8): new ones though alike", x.shared(4, 8), 0);
        due("turn(0) by no ROWS", x.turn(0), 9);
        dueChunks(x, 9, 0, 1, 2);
    }

    private static void turnRefused() {
        promise = 14;
        VersionChunks x = made(2, 1);
        due("turn(0) without rows()", x.turn(0), NO);
        due("turn(1) without rows(), no such VERSION", x.turn(1), BAD);
        x.set(0, 1, 1, 1);
        x.set(0, 1, 1, 2);
        x.set(0, 1, 1, 3);
        x.set(3, 0, 0, 3);
        due("rows(0, 9)", x.rows(0, 9), BAD);
        due("turn(0) after rows() that were BAD", x.turn(0), NO);
        x.rows(1, 2);
        due("turn(0): neither as in a nor as in b", x.turn(0), NO);
        due("turn(4): neither", x.turn(4), NO);
        due("count(1)", x.count(1), 5);
        due("count(3)", x.count(3), 6);
        due("turn(2): as in b", x.turn(2), 5);
        due("turn(1): as in a", x.turn(1), 6);
        due("at(6, 1, 1)", x.at(6, 1, 1), 2);
        due("turn(7)", x.turn(7), BAD);
        due("turn(-1)", x.turn(-1), BAD);
        due("turn(LEAST)", x.turn(LEAST), BAD);
        x.set(0, 0, 0, 6);
        due("rows(4, 7)", x.rows(4, 7), 2);
        due("turn(0): neither, in the first number", x.turn(0), NO);
        due("rows(1, 2)", x.rows(1, 2), 1);
        fill(x);
        due("turn(1) when FULL", x.turn(1), FULL);
        due("turn(0) when FULL, neither", x.turn(0), NO);
        due("turn(60) when FULL", x.turn(60), BAD);
    }

    private static void join() {
        promise = 15;
        VersionChunks x = made(6, 2);
        x.put(0, 0, 1);
        x.set(1, 0, 3, 5);
        x.put(2, 3, 3);
        int a = x.take(3, 0, 1);
        x.put(3, 0, 2);
        int b = x.set(5, 1, 5, 9);
        x.clock(4);
        due("join(3, 4, 6)", x.join(3, a, b), 7);
        due("parent is a", x.parent(7), a);
        due("its TIME", x.time(3), 6);
        due("taken in a", x.has(7, 0, 1), 0);
        due("put in b", x.has(7, 0, 2), 1);
        due("as in all", x.has(7, 3, 3), 1);
        due("set in b", x.at(7, 1, 5), 9);
        due("set in the base", x.at(7, 0, 3), 5);
        due("join(3, 6, 4)", x.join(3, b, a), 8);
        due("it is alike", x.rows(7, 8), 0);
        due("parent is the other", x.parent(8), b);
        due("join(0, 0, 0)", x.join(0, 0, 0), 9);
        dueChunks(x, 9, 0, 1, 2);
        due("join(6, 0, 0): a and b are unlike the base, but alike", x.join(b, 0, 0), 10);
        due("rows(0, 10)", x.rows(0, 10), 0);
        int[][] wrongOnes = {{11, 0, 0}, {0, 11, 0}, {0, 0, 11}, {-1, 0, 0}, {0, -1, 0}, {0, 0, -1}, {LEAST, MOST, 60}};
        for (int[] w : wrongOnes) {
            due("join(" + w[0] + ", " + w[1] + ", " + w[2] + ")", x.join(w[0], w[1], w[2]), BAD);
        }
        due("count(1)", x.count(1), 11);
    }

    private static void joinChunks() {
        promise = 15;
        VersionChunks x = made(8, 2);
        // VERSION 2 and VERSION 4: in chunk 0 alike by two CHUNKS, in chunk 1 unlike, in 2 a alone, in 3 b alone.
        x.set(0, 0, 0, 1);
        x.set(1, 0, 2, 1);
        int a = x.set(2, 0, 4, 1);
        x.set(0, 0, 0, 1);
        x.set(4, 0, 3, 1);
        int b = x.set(5, 0, 6, 1);
        dueChunks(x, a, 4, 5, 6, 3);
        dueChunks(x, b, 7, 8, 2, 9);
        due("join(0, a, b)", x.join(0, a, b), 7);
        dueChunks(x, 7, 4, 10, 6, 9);
        due("join(0, b, a)", x.join(0, b, a), 8);
        dueChunks(x, 8, 7, 11, 6, 9);

        // a's chunk 0 is another one than the base's, but with the same ITEMS: what is joined is b's.
        int there = x.put(0, 1, 1);
        int back = x.take(there, 1, 1);
        due("join(0, back, 1)", x.join(0, back, 1), 11);
        due("b's CHUNK", x.chunk(11, 0), x.chunk(1, 0));
        due("join(0, 1, back)", x.join(0, 1, back), 12);
        due("a's CHUNK", x.chunk(12, 0), x.chunk(1, 0));
        due("join(0, back, back)", x.join(0, back, back), 13);
        due("a's and b's CHUNK, not the base's", x.chunk(13, 0), x.chunk(back, 0));
        int other = x.take(there, 1, 1);
        due("join(0, other, back): all alike", x.join(0, other, back), 15);
        due("a's CHUNK first", x.chunk(15, 0), x.chunk(other, 0));

        VersionChunks y = made(4, 1);
        y.put(0, 3, 0);
        y.put(1, 0, 0);
        y.put(0, 3, 1);
        y.put(3, 0, 1);
        due("join makes two CHUNKS", y.join(0, 2, 4), 5);
        dueChunks(y, 5, 8, 1, 2, 9);
    }

    private static void joinRefused() {
        promise = 15;
        VersionChunks x = made(3, 1);
        x.set(0, 0, 0, 1);
        x.set(1, 1, 2, 1);
        x.set(0, 0, 0, 2);
        x.set(3, 1, 2, 2);
        due("join(0, 2, 4)", x.join(0, 2, 4), -12);
        due("count(6)", x.count(6), 2);
        due("join(0, 1, 4)", x.join(0, 1, 4), -11);
        due("count(6)", x.count(6), 1);
        dueCounts(x, 3, 5, 5, 7, 7);
        due("join(1, 0, 4): 1, 0, 2", x.join(1, 0, 4), -11);
        fill(x);
        due("join when FULL", x.join(0, 1, 2), FULL);
        due("CONFLICTS go ahead", x.join(0, 2, 4), -12);
        due("BAD goes ahead", x.join(0, 2, 60), BAD);

        VersionChunks y = made(29, 10);
        for (int i = 0; i < 29; i++) {
            y.set(i, 0, i, 1);
        }
        y.set(0, 0, 0, 2);
        for (int i = 1; i < 29; i++) {
            y.set(29 + i, 0, i, 2);
        }
        due("join with many CONFLICTS", y.join(0, 29, 58), -39);
        due("the last of them", y.conflict(28, 0), 28);
    }

    private static void conflict() {
        promise = 16;
        VersionChunks x = made(64, 64);
        due("conflict(0, 0) before", x.conflict(0, 0), NONE);
        int a = 0;
        int b = 0;
        int[][] places = {{63, 1}, {63, 0}, {5, 1}, {0, 0}};
        for (int[] place : places) {
            a = x.set(a, place[1], place[0], 1);
            b = x.set(b, place[1], place[0], 2);
        }
        a = x.put(a, 1, 1);
        a = x.set(a, 0, 7, 1);
        b = x.set(b, 0, 8, 1);
        due("join", x.join(0, a, b), -14);
        int[][] want = {{0, -1}, {5, -2}, {63, -1}, {63, -2}, {NONE, NONE}};
        for (int k = 0; k < want.length; k++) {
            due("conflict(" + k + ", 0)", x.conflict(k, 0), want[k][0]);
            due("conflict(" + k + ", 1)", x.conflict(k, 1), want[k][1]);
        }
        due("conflict(-1, 0)", x.conflict(-1, 0), NONE);
        due("conflict(LEAST, 0)", x.conflict(LEAST, 0), NONE);
        due("conflict(0, 2)", x.conflict(0, 2), NONE);
        due("conflict(0, -1)", x.conflict(0, -1), NONE);
        x.rows(0, b);
        due("a join() that had none", x.join(0, 0, b) > 0 ? 1 : 0, 1);
        due("a join() that was BAD", x.join(0, a, 60), BAD);
        x.letGo(a);
        x.letGo(b);
        due("count(6) stays", x.count(6), 4);
        due("conflict(1, 0) stays", x.conflict(1, 0), 5);
        due("join(0, 1, 2)", x.join(0, 1, 2), -11);
        due("told in place of those before", x.conflict(0, 0), 63);
        due("no others", x.conflict(1, 0), NONE);
    }

    private static void letGo() {
        promise = 17;
        VersionChunks x = made(4, 2);
        x.put(0, 0, 0);
        x.put(1, 2, 2);
        x.set(2, 0, 0, 0);
        x.put(2, 0, 1);
        due("letGo(0)", x.letGo(0), BAD);
        due("letGo(5)", x.letGo(5), BAD);
        due("letGo(-1)", x.letGo(-1), BAD);
        due("letGo(MOST)", x.letGo(MOST), BAD);
        dueCounts(x, 4, 5, 5, 5, 5);
        due("letGo(1): 2 and 3 have its CHUNK", x.letGo(1), 0);
        due("letGo(1) again", x.letGo(1), BAD);
        due("letGo(2): 3 has them", x.letGo(2), 0);
        dueCounts(x, 4, 5, 3, 5, 5);
        due("letGo(3)", x.letGo(3), 1);
        due("letGo(4)", x.letGo(4), 2);
        dueCounts(x, 4, 5, 1, 5, 2);
        due("numbers are not used again", x.put(0, 0, 0), 5);
        dueChunks(x, 5, 5, 1);

        VersionChunks y = made(2, 1);
        fill(y);
        due("letGo(59)", y.letGo(59), 1);
        due("no room by that", y.set(0, 0, 0, 1), FULL);
    }

    private static void letGoAnswersNoMore() {
        promise = 17;
        VersionChunks x = made(2, 1);
        x.put(0, 0, 1);
        x.set(1, 0, 0, 5);
        x.put(2, 1, 0);
        x.rows(0, 2);
        x.letGo(2);
        due("put", x.put(2, 1, 1), BAD);
        due("put of one that is there", x.put(2, 0, 1), BAD);
        due("take", x.take(2, 0, 1), BAD);
        due("set", x.set(2, 0, 0, 1), BAD);
        due("has", x.has(2, 0, 1), BAD);
        due("at", x.at(2, 0, 0), 0);
        due("arc", x.arc(2, 0, 0), BAD);
        due("reach", x.reach(2, 0, 0), BAD);
        due("rows a", x.rows(2, 0), BAD);
        due("rows b", x.rows(0, 2), BAD);
        due("turn", x.turn(2), BAD);
        due("join base", x.join(2, 0, 0), BAD);
        due("join a", x.join(0, 2, 0), BAD);
        due("join b", x.join(0, 0, 2), BAD);
        due("chunk", x.chunk(2, 0), BAD);
        due("shared a", x.shared(2, 0), BAD);
        due("shared b", x.shared(0, 2), BAD);
        due("parent", x.parent(2), 1);
        due("ancestor", x.ancestor(2, 3), 2);
        due("those that come from it stay", x.at(3, 0, 0), 5);
        due("count(1)", x.count(1), 4);
    }

    private static void chunk() {
        promise = 18;
        VersionChunks x = made(5, 2);
        dueChunks(x, 0, 0, 1, 2);
        x.put(0, 1, 4);
        dueChunks(x, 1, 3, 1, 2);
        x.put(1, 4, 1);
        dueChunks(x, 2, 3, 1, 4);
        x.set(0, 1, 2, 1);
        dueChunks(x, 3, 0, 5, 2);
        due("chunk(0, -1)", x.chunk(0, -1), NONE);
        due("chunk(0, LEAST)", x.chunk(0, LEAST), NONE);
        due("chunk(0, MOST)", x.chunk(0, MOST), NONE);
        due("chunk(4, 0)", x.chunk(4, 0), BAD);
        due("chunk(-1, 9)", x.chunk(-1, 9), BAD);
        VersionChunks y = made(64, 1);
        due("chunk(0, 63)", y.chunk(0, 63), 63);
        due("chunk(0, 64)", y.chunk(0, 64), NONE);
        y.set(0, 0, 63, 1);
        due("chunk(1, 63)", y.chunk(1, 63), 64);
        VersionChunks z = made(3, 64);
        z.put(0, 2, 2);
        dueChunks(z, 1, 1);
    }

    private static void shared() {
        promise = 19;
        VersionChunks x = made(6, 2);
        x.put(0, 0, 0);
        x.put(1, 5, 5);
        x.put(0, 5, 5);
        due("shared(0, 0)", x.shared(0, 0), 3);
        due("shared(0, 1)", x.shared(0, 1), 2);
        due("shared(1, 0)", x.shared(1, 0), 2);
        due("shared(0, 2)", x.shared(0, 2), 1);
        due("shared(1, 2)", x.shared(1, 2), 2);
        due("shared(2, 3): alike but not the same", x.shared(2, 3), 1);
        due("shared(0, 4)", x.shared(0, 4), BAD);
        due("shared(4, 0)", x.shared(4, 0), BAD);
        due("shared(-1, -1)", x.shared(-1, -1), BAD);
    }

    private static void parent() {
        promise = 20;
        VersionChunks x = made(2, 2);
        x.put(0, 0, 0);
        x.put(1, 1, 1);
        x.put(0, 1, 0);
        due("parent(0)", x.parent(0), NONE);
        due("parent(1)", x.parent(1), 0);
        due("parent(2)", x.parent(2), 1);
        due("parent(3)", x.parent(3), 0);
        x.letGo(1);
        x.letGo(2);
        due("parent(2), both let go", x.parent(2), 1);
        due("parent(4)", x.parent(4), BAD);
        due("parent(-1)", x.parent(-1), BAD);
        due("parent(60)", x.parent(60), BAD);
        due("parent(LEAST)", x.parent(LEAST), BAD);
    }

    private static void ancestor() {
        promise = 21;
        VersionChunks x = made(3, 3);
        x.put(0, 0, 0);
        x.put(1, 0, 1);
        x.put(2, 0, 2);
        x.put(1, 1, 1);
        x.put(4, 1, 2);
        x.put(0, 2, 2);
        due("ancestor(3, 5)", x.ancestor(3, 5), 1);
        due("ancestor(5, 3)", x.ancestor(5, 3), 1);
        due("ancestor(3, 2): one of them", x.ancestor(3, 2), 2);
        due("ancestor(1, 5)", x.ancestor(1, 5), 1);
        due("ancestor(4, 4)", x.ancestor(4, 4), 4);
        due("ancestor(6, 5)", x.ancestor(6, 5), 0);
        due("ancestor(0, 0)", x.ancestor(0, 0), 0);
        x.letGo(1);
        x.letGo(3);
        due("ancestor(3, 5), let go", x.ancestor(3, 5), 1);
        int joined = x.join(0, 5, 6);
        due("ancestor of a joined one and b: by a alone", x.ancestor(joined, 6), 0);
        due("ancestor of a joined one and a", x.ancestor(joined, 5), 5);
        due("ancestor(0, 8)", x.ancestor(0, 8), BAD);
        due("ancestor(8, 0)", x.ancestor(8, 0), BAD);
        due("ancestor(-1, 0)", x.ancestor(-1, 0), BAD);
        due("ancestor(LEAST, MOST)", x.ancestor(LEAST, MOST), BAD);

        VersionChunks y = made(1, 1);
        for (int i = 1; i < 30; i++) {
            y.set(i - 1, 0, 0, i);
        }
        y.set(0, 0, 0, 1);
        for (int i = 31; i < 60; i++) {
            y.set(i - 1, 0, 0, i);
        }
        due("ancestor of two long ways", y.ancestor(29, 59), 0);
        due("ancestor far off", y.ancestor(31, 59), 31);
    }

    private static void time() {
        promise = 22;
        VersionChunks x = new VersionChunks();
        x.clock(2);
        x.graph(2, 1);
        x.clock(5);
        x.put(0, 0, 0);
        x.put(0, 0, 1);
        x.clock(MOST);
        x.put(0, 1, 1);
        due("time(LEAST)", x.time(LEAST), NONE);
        due("time(1)", x.time(1), NONE);
        due("time(2)", x.time(2), 0);
        due("time(4)", x.time(4), 0);
        due("time(5)", x.time(5), 2);
        due("time(MOST - 1)", x.time(MOST - 1), 2);
        due("time(MOST)", x.time(MOST), 3);
        x.letGo(2);
        due("time(5), 2 is let go", x.time(5), 1);
        x.letGo(1);
        due("time(5), both are let go", x.time(5), 0);
        x.graph(2, 1);
        due("time(5), a new GRAPH", x.time(5), NONE);
        due("time(MOST), a new GRAPH", x.time(MOST), 0);
    }

    private static void count() {
        promise = 23;
        VersionChunks x = made(7, 2);
        x.clock(11);
        x.set(0, 0, 0, 1);
        x.set(0, 0, 0, 2);
        x.set(2, 1, 6, 2);
        x.letGo(3);
        x.rows(0, 2);
        x.join(0, 1, 2);
        dueCounts(x, 7, 4, 3, 7, 6, 1, 1, 11);
        due("count(8)", x.count(8), BAD);
        due("count(-1)", x.count(-1), BAD);
        due("count(LEAST)", x.count(LEAST), BAD);
        due("count(MOST)", x.count(MOST), BAD);
    }
}
