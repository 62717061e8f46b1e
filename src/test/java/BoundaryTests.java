import java.util.ArrayList;
import java.util.List;
import java.util.function.Consumer;
import java.util.function.ToLongFunction;

/**
 * A test for each sentence of DOC.md that names a boundary case, in the document's order and with its words: too
 * small, too large, empty, full, the same twice, a refused call. No object is asked more than 512 calls.
 */
public final class BoundaryTests {
    private static final int BAD = -1, NO = -2, FULL = -3, NONE = -99999999;
    private static final int LEAST = Integer.MIN_VALUE, MOST = Integer.MAX_VALUE;
    private static final int VERSIONS = 60;

    /** A call by its text, so that a wrong answer can be told, and one run of calls made on several objects. */
    private record Call(String text, ToLongFunction<VersionChunks> made) { }

    private static int wrong = 0;
    private static String place = "";
    private static String sentence = "";

    private static void in(String where) {
        place = where;
    }

    private static void says(String words, Runnable test) {
        sentence = words;
        test.run();
    }

    private static void due(String call, long got, long want) {
        if (got != want) {
            wrong++;
            System.out.println(place + ", \"" + sentence + "\": " + call + " answered " + got + ", due is " + want);
        }
    }

    private static Call call(String text, ToLongFunction<VersionChunks> made) {
        return new Call(text, made);
    }

    private static void dueAll(VersionChunks x, long want, List<Call> calls) {
        for (Call c : calls) {
            due(c.text, c.made.applyAsLong(x), want);
        }
    }

    private static void dueChunks(VersionChunks x, int version, int... want) {
        for (int k = 0; k < want.length; k++) {
            due("chunk(" + version + ", " + k + ")", x.chunk(version, k), want[k]);
        }
    }

    private static VersionChunks graphOf(int n, int size) {
        VersionChunks x = new VersionChunks();
        x.graph(n, size);
        return x;
    }

    /** Sets numbers on VERSION 0 until there are all the VERSIONS that there can be. */
    private static void fill(VersionChunks x) {
        for (int i = x.count(1); i < VERSIONS; i++) {
            x.set(0, 1, 0, i);
        }
    }

    public static void main(String[] args) {
        calls();
        termsAnswers();
        termsGraph();
        termsChunks();
        termsJoined();
        termsLetGo();
        termsOrder();
        newObject();
        graph();
        clock();
        put();
        take();
        set();
        has();
        at();
        arc();
        reach();
        rows();
        row();
        was();
        turn();
        join();
        conflict();
        letGo();
        chunk();
        shared();
        parent();
        ancestor();
        time();
        count();
        System.out.println(wrong == 0 ? "all boundary cases hold" : wrong + " answers are not as due");
        if (wrong != 0) {
            System.exit(1);
        }
    }

    // ---- What it is

    private static void calls() {
        in("What it is");
        says("An object is used for at most 512 calls after it has been made", () -> {
            VersionChunks x = new VersionChunks();
            for (int i = 1; i <= 8; i++) {
                due("graph " + i, x.graph(64, 1), 64);
                for (int version = 1; version < VERSIONS; version++) {
                    due("put " + version, x.put(version - 1, version, version), version);
                }
                due("rows", x.rows(0, 59), 59);
                due("turn", x.turn(0), FULL);
                due("join", x.join(0, 0, 59), FULL);
                due("letGo", x.letGo(59), 1);
            }
            VersionChunks y = graphOf(3, 1);
            for (int i = 2; i < 512; i++) {
                due("call " + i, y.clock(i), i == 2 ? 0 : i - 1);
            }
            due("the 512th call", y.put(0, 2, 2), 1);
        });
    }

    // ---- Terms: BAD, NO, FULL, NONE

    private static void termsAnswers() {
        in("Terms");
        says("BAD (-1): a number is not as told, or there is no such thing", () -> {
            due("BAD", VersionChunks.BAD, -1);
            int[] noVersions = {-1, 3, 59, 60, 61, LEAST, MOST};
            for (int v : noVersions) {
                VersionChunks x = graphOf(2, 1);
                x.put(0, 0, 1);
                x.put(1, 1, 0);
                x.rows(0, 1);
                dueAll(x, BAD, allOn(v));
                due("at of VERSION " + v, x.at(v, 0, 0), 0);
                due("parent of VERSION " + v, x.parent(v), BAD);
                due("ancestor a of VERSION " + v, x.ancestor(v, 0), BAD);
                due("ancestor b of VERSION " + v, x.ancestor(0, v), BAD);
            }
        });
        says("(a VERSION that was let go neither, but where it says so)", () -> {
            VersionChunks x = graphOf(2, 1);
            x.put(0, 0, 1);
            x.set(1, 0, 0, 5);
            x.put(2, 1, 0);
            x.rows(0, 2);
            x.letGo(2);
            dueAll(x, BAD, allOn(2));
            due("at of one let go", x.at(2, 0, 0), 0);
            due("parent of one let go", x.parent(2), 1);
            due("ancestor a of one let go", x.ancestor(2, 3), 2);
            due("ancestor b of one let go", x.ancestor(3, 2), 2);
        });
        says("NO (-2): not now; FULL (-3)", () -> {
            due("NO", VersionChunks.NO, -2);
            due("FULL", VersionChunks.FULL, -3);
        });
        says("of several the first one here", BoundaryTests::firstOfSeveral);
        says("they change nothing", BoundaryTests::refusedChangeNothing);
        says("NONE (-99999999)", () -> due("NONE", VersionChunks.NONE, -99999999));
    }

    /** All calls that are BAD where their VERSION is none, and as they should be otherwise. */
    private static List<Call> allOn(int v) {
        List<Call> all = new ArrayList<>();
        all.add(call("put(" + v + ", 1, 1)", x -> x.put(v, 1, 1)));
        all.add(call("take(" + v + ", 0, 1)", x -> x.take(v, 0, 1)));
        all.add(call("set(" + v + ", 0, 0, 1)", x -> x.set(v, 0, 0, 1)));
        all.add(call("has(" + v + ", 0, 1)", x -> x.has(v, 0, 1)));
        all.add(call("arc(" + v + ", 0, 0)", x -> x.arc(v, 0, 0)));
        all.add(call("reach(" + v + ", 0, 0)", x -> x.reach(v, 0, 0)));
        all.add(call("rows(" + v + ", 0)", x -> x.rows(v, 0)));
        all.add(call("rows(0, " + v + ")", x -> x.rows(0, v)));
        all.add(call("turn(" + v + ")", x -> x.turn(v)));
        all.add(call("join(" + v + ", 0, 0)", x -> x.join(v, 0, 0)));
        all.add(call("join(0, " + v + ", 0)", x -> x.join(0, v, 0)));
        all.add(call("join(0, 0, " + v + ")", x -> x.join(0, 0, v)));
        all.add(call("letGo(" + v + ")", x -> x.letGo(v)));
        all.add(call("chunk(" + v + ", 0)", x -> x.chunk(v, 0)));
        all.add(call("shared(" + v + ", 0)", x -> x.shared(v, 0)));
        all.add(call("shared(0, " + v + ")", x -> x.shared(0, v)));
        return all;
    }

    private static void firstOfSeveral() {
        VersionChunks x = graphOf(2, 1);
        int there = x.put(0, 0, 0);
        int gone = x.put(0, 0, 0);
        int one = x.set(0, 0, 0, 1);
        int two = x.set(0, 0, 0, 2);
        x.letGo(gone);
        due("turn: BAD before NO without rows()", x.turn(gone), BAD);
        fill(x);
        due("put: BAD before NO, FULL", x.put(gone, 0, 0), BAD);
        due("put: BAD by the NODE before FULL", x.put(0, 0, 2), BAD);
        due("put: NO before FULL", x.put(there, 0, 0), NO);
        due("put: FULL", x.put(0, 0, 0), FULL);
        due("take: BAD before NO, FULL", x.take(gone, 1, 1), BAD);
        due("take: BAD by the NODE before NO, FULL", x.take(0, 2, 0), BAD);
        due("take: NO before FULL", x.take(0, 0, 0), NO);
        due("take: FULL", x.take(there, 0, 0), FULL);
        due("set: BAD before FULL", x.set(gone, 0, 0, 1), BAD);
        due("set: BAD by the COLUMN before FULL", x.set(0, 2, 0, 1), BAD);
        due("set: FULL", x.set(0, 0, 0, 1), FULL);
        due("turn: NO without rows() before FULL", x.turn(0), NO);
        due("rows", x.rows(one, two), 1);
        due("turn: NO by an ITEM before FULL", x.turn(0), NO);
        due("turn: BAD before FULL", x.turn(gone), BAD);
        due("turn: FULL", x.turn(one), FULL);
        due("join: BAD before CONFLICTS, FULL", x.join(gone, one, two), BAD);
        due("join: CONFLICTS before FULL", x.join(0, one, two), -11);
        due("join: FULL", x.join(0, one, there), FULL);
        due("arc: BAD by the VERSION before NONE", x.arc(gone, 9, 0), BAD);
        due("arc: BAD by what before NONE", x.arc(there, 9, 2), BAD);
        due("chunk: BAD before NONE", x.chunk(gone, 9), BAD);
        due("reach: BAD before NONE", x.reach(0, 0, 2), BAD);
    }

    /** VERSION 4 is let go, 2 and 3 have a CONFLICT, and the ROWS are those of 0 and 2. */
    private static void richSetting(VersionChunks x) {
        x.graph(3, 2);
        x.clock(4);
        x.put(0, 0, 1);
        x.set(1, 0, 2, 5);
        x.set(1, 0, 2, 6);
        x.clock(7);
        x.put(3, 1, 1);
        x.letGo(4);
        x.join(1, 2, 3);
        x.rows(0, 2);
    }

    private static void fullSetting(VersionChunks x) {
        richSetting(x);
        fill(x);
    }

    private static void refusedChangeNothing() {
        List<Call> bad = new ArrayList<>();
        for (int v : new int[] {-1, 4, 60, LEAST, MOST}) {
            bad.addAll(allOn(v));
        }
        bad.add(call("letGo(0)", x -> x.letGo(0)));
        bad.add(call("clock(6)", x -> x.clock(6)));
        bad.add(call("clock(LEAST)", x -> x.clock(LEAST)));
        bad.add(call("graph(0, 1)", x -> x.graph(0, 1)));
        bad.add(call("graph(65, 1)", x -> x.graph(65, 1)));
        bad.add(call("graph(2, 0)", x -> x.graph(2, 0)));
        bad.add(call("graph(2, 65)", x -> x.graph(2, 65)));
        bad.add(call("put(0, 3, 0)", x -> x.put(0, 3, 0)));
        bad.add(call("put(0, 0, 3)", x -> x.put(0, 0, 3)));
        bad.add(call("put(0, 0, -1)", x -> x.put(0, 0, -1)));
        bad.add(call("take(1, 0, 3)", x -> x.take(1, 0, 3)));
        bad.add(call("take(1, -1, 1)", x -> x.take(1, -1, 1)));
        bad.add(call("set(0, 2, 0, 1)", x -> x.set(0, 2, 0, 1)));
        bad.add(call("set(0, -1, 1, 1)", x -> x.set(0, -1, 1, 1)));
        bad.add(call("set(0, 0, 3, 1)", x -> x.set(0, 0, 3, 1)));
        bad.add(call("count(8)", x -> x.count(8)));
        List<Call> no = List.of(call("put(1, 0, 1)", x -> x.put(1, 0, 1)), call("take(0, 0, 1)", x -> x.take(0, 0, 1)),
            call("turn(3)", x -> x.turn(3)));
        List<Call> full = List.of(call("put(0, 0, 1)", x -> x.put(0, 0, 1)),
            call("take(1, 0, 1)", x -> x.take(1, 0, 1)), call("set(0, 0, 0, 1)", x -> x.set(0, 0, 0, 1)),
            call("set(0, 0, 0, 0)", x -> x.set(0, 0, 0, 0)), call("turn(0)", x -> x.turn(0)),
            call("join(0, 1, 2)", x -> x.join(0, 1, 2)));
        List<Call> none = List.of(call("row(9, 0)", x -> x.row(9, 0)), call("conflict(9, 0)", x -> x.conflict(9, 0)),
            call("arc(0, 9, 0)", x -> x.arc(0, 9, 0)), call("chunk(0, 9)", x -> x.chunk(0, 9)),
            call("time(-1)", x -> x.time(-1)));
        dueSameAfter(BoundaryTests::richSetting, bad, BAD);
        dueSameAfter(BoundaryTests::richSetting, no, NO);
        dueSameAfter(BoundaryTests::richSetting, none, NONE);
        dueSameAfter(BoundaryTests::fullSetting, bad, BAD);
        dueSameAfter(BoundaryTests::fullSetting, no, NO);
        dueSameAfter(BoundaryTests::fullSetting, full, FULL);
    }

    /** Of two objects of the same setting one gets the refused call too; then both must tell the same. */
    private static void dueSameAfter(Consumer<VersionChunks> setting, List<Call> refused, long want) {
        for (Call c : refused) {
            // Ten VERSIONS at a time, so that an object is asked no more than 512 calls.
            for (int first = 0; first < VERSIONS; first += 10) {
                VersionChunks asked = new VersionChunks();
                VersionChunks other = new VersionChunks();
                setting.accept(asked);
                setting.accept(other);
                if (first < other.count(1)) {
                    due(c.text, c.made.applyAsLong(asked), want);
                    List<Long> after = allTold(asked, first);
                    List<Long> before = allTold(other, first);
                    for (int i = 0; i < before.size(); i++) {
                        due("after " + c.text + " the answer " + i + " from VERSION " + first + " on", after.get(i),
                            before.get(i));
                    }
                }
            }
        }
    }

    private static List<Long> allTold(VersionChunks x, int first) {
        List<Long> told = new ArrayList<>();
        for (int what = 0; what < 8; what++) {
            told.add((long) x.count(what));
        }
        for (int v = first; v < first + 10; v++) {
            told.add((long) x.parent(v));
            for (int node = 0; node < 3; node++) {
                for (int to = 0; to < 3; to++) {
                    told.add((long) x.has(v, node, to));
                }
                told.add(x.at(v, 0, node));
                told.add(x.at(v, 1, node));
                told.add((long) x.chunk(v, node));
            }
        }
        for (int k = 0; k < 4; k++) {
            for (int side = 0; side < 2; side++) {
                told.add((long) x.row(k, side));
                told.add(x.was(k, side));
                told.add((long) x.conflict(k, side));
            }
        }
        for (int t = -1; t < 9; t++) {
            told.add((long) x.time(t));
        }
        // What would come next is part of the state, too.
        told.add((long) x.turn(0));
        told.add((long) x.set(0, 0, 1, 99));
        told.add((long) x.chunk(x.count(1) - 1, 0));
        told.add((long) x.count(3));
        told.add((long) x.letGo(2));
        told.add((long) x.clock(7));
        return told;
    }

    // ---- Terms: a GRAPH, its ITEMS, its VERSIONS

    private static void termsGraph() {
        in("Terms");
        says("A GRAPH has NODES 0 .. n - 1 (64 at most)", () -> {
            for (int n : new int[] {1, 2, 63, 64}) {
                VersionChunks x = graphOf(n, 64);
                due("count(0)", x.count(0), n);
                due("put of the last NODE", x.put(0, n - 1, n - 1), 1);
                due("set of the last NODE", x.set(1, 1, n - 1, 4), 2);
                due("has of the last NODE", x.has(2, n - 1, n - 1), 1);
                due("at of the last NODE", x.at(2, 1, n - 1), 4);
                due("reach of the last NODE", x.reach(2, n - 1, n - 1), 0);
                due("take of the last NODE", x.take(2, n - 1, n - 1), 3);
                for (int node : new int[] {n, n + 1, 64, 65, 128, -1, -64, LEAST, MOST}) {
                    dueAll(x, BAD, allOfNode(node));
                    due("at of NODE " + node, x.at(2, 1, node), 0);
                }
                due("VERSIONS", x.count(1), 4);
            }
        });
        says("an ARC from each NODE to each one (itself, too), there or not", () -> {
            VersionChunks x = graphOf(5, 2);
            int version = 0;
            for (int from = 0; from < 5; from++) {
                for (int to = 0; to < 5; to++) {
                    due("has(" + version + ", " + from + ", " + to + ")", x.has(version, from, to), 0);
                    due("put(" + version + ", " + from + ", " + to + ")", x.put(version, from, to), version + 1);
                    version++;
                    due("has(" + version + ", " + from + ", " + to + ")", x.has(version, from, to), 1);
                }
            }
            due("rows(0, 25): no ARC is there twice", x.rows(0, version), 25);
        });
        says("COLUMNS 0 and 1, with a number for each NODE", () -> {
            VersionChunks x = graphOf(64, 9);
            int version = 0;
            for (int node = 0; node < 64; node += 3) {
                version = x.set(version, 0, node, 10 + node);
                version = x.set(version, 1, node, 100 + node);
            }
            for (int node = 0; node < 64; node++) {
                due("COLUMN 0 of NODE " + node, x.at(version, 0, node), node % 3 == 0 ? 10 + node : 0);
                due("COLUMN 1 of NODE " + node, x.at(version, 1, node), node % 3 == 0 ? 100 + node : 0);
            }
            for (int column : new int[] {-1, 2, 3, -2, LEAST, MOST}) {
                due("set in COLUMN " + column, x.set(version, column, 9, 1), BAD);
                due("at in COLUMN " + column, x.at(version, column, 9), 0);
            }
        });
        says("At first no ARC is there, all numbers are 0: VERSION 0", () -> {
            for (int n : new int[] {1, 13, 64}) {
                VersionChunks x = graphOf(13, 5);
                x.set(x.put(0, 0, 0), 1, 0, 6);
                x.set(x.put(0, 12, 12), 0, 12, 7);
                due("graph(" + n + ", 5)", x.graph(n, 5), (n + 4) / 5);
                due("count(1)", x.count(1), 1);
                due("arc(0, 0, 0)", x.arc(0, 0, 0), NONE);
                for (int node = 0; node < n; node++) {
                    due("has(0, node, 0)", x.has(0, node, 0), 0);
                    due("has(0, node, n - 1)", x.has(0, node, n - 1), 0);
                    due("has(0, node, node)", x.has(0, node, node), 0);
                    due("at(0, 0, " + node + ")", x.at(0, 0, node), 0);
                    due("at(0, 1, " + node + ")", x.at(0, 1, node), 0);
                }
            }
        });
        says("VERSIONS (60 in all)", BoundaryTests::sixtyInAll);
        says("have a PARENT (0: none) and a TIME", () -> {
            VersionChunks x = new VersionChunks();
            x.clock(3);
            x.graph(1, 1);
            due("parent(0)", x.parent(0), NONE);
            due("parent of the first one made", x.parent(x.put(0, 0, 0)), 0);
            due("time below VERSION 0's TIME", x.time(2), NONE);
            due("time of VERSION 0 and 1", x.time(3), 1);
        });
        says("what they are never changes", () -> {
            VersionChunks x = graphOf(2, 2);
            int v = x.set(x.put(0, 0, 1), 0, 1, 8);
            int taken = x.take(v, 0, 1);
            int other = x.set(v, 0, 1, 9);
            x.rows(v, other);
            due("turn", x.turn(taken), 5);
            due("join", x.join(v, taken, other), 6);
            x.letGo(taken);
            x.letGo(1);
            x.clock(5);
            due("has", x.has(v, 0, 1), 1);
            due("at", x.at(v, 0, 1), 8);
            due("chunk", x.chunk(v, 0), 2);
            due("parent", x.parent(v), 1);
            due("an ARC that was never there", x.has(v, 1, 1), 0);
            due("VERSION 0", x.rows(0, v), 2);
            due("its TIME", x.time(0), 6);
        });
    }

    private static List<Call> allOfNode(int node) {
        return List.of(call("put(2, " + node + ", 0)", x -> x.put(2, node, 0)),
            call("put(2, 0, " + node + ")", x -> x.put(2, 0, node)),
            call("take(2, " + node + ", 0)", x -> x.take(2, node, 0)),
            call("take(2, 0, " + node + ")", x -> x.take(2, 0, node)),
            call("set(2, 0, " + node + ", 1)", x -> x.set(2, 0, node, 1)),
            call("has(2, " + node + ", 0)", x -> x.has(2, node, 0)),
            call("has(2, 0, " + node + ")", x -> x.has(2, 0, node)),
            call("reach(2, " + node + ", 0)", x -> x.reach(2, node, 0)),
            call("reach(2, 0, " + node + ")", x -> x.reach(2, 0, node)),
            call("reach(2, " + node + ", " + node + ")", x -> x.reach(2, node, node)));
    }

    private static void sixtyInAll() {
        VersionChunks x = graphOf(2, 1);
        for (int version = 1; version < VERSIONS; version++) {
            due("set " + version, x.set(version - 1, 0, 0, version), version);
        }
        due("set of one more", x.set(59, 0, 0, 60), FULL);
        due("count(1)", x.count(1), 60);
        due("count(3)", x.count(3), 61);
        due("the last one is there", x.at(59, 0, 0), 59);
        due("the one after it is not", x.parent(60), BAD);
        due("letGo(59)", x.letGo(59), 1);
        due("letGo(58)", x.letGo(58), 1);
        due("those let go count, too", x.set(0, 0, 0, 1), FULL);
        due("a new GRAPH", x.graph(2, 1), 2);
        due("has room again", x.set(0, 0, 0, 1), 1);
    }

    // ---- Terms: CHUNKS

    private static void termsChunks() {
        in("Terms, CHUNKS");
        says("chunk k of a VERSION holds the ITEMS of the NODES k size .. k size + size - 1 (of ARCS those from them), "
            + "the last one of those that there are", () -> {
            int[][] sizes = {{1, 1}, {1, 64}, {4, 4}, {5, 4}, {4, 5}, {7, 3}, {9, 3}, {8, 3}, {64, 63}, {64, 64},
                {64, 1}, {63, 64}, {50, 7}};
            for (int[] s : sizes) {
                chunksOfNodes(s[0], s[1]);
            }
        });
        says("CHUNKS are numbered as they come, from 0 on: those of VERSION 0, chunk by chunk, first", () -> {
            VersionChunks x = graphOf(64, 1);
            for (int k = 0; k < 64; k++) {
                due("chunk(0, " + k + ")", x.chunk(0, k), k);
            }
            due("the first one that comes then", x.chunk(x.put(0, 5, 5), 5), 64);
            due("the next one", x.chunk(x.put(0, 9, 5), 9), 65);
            x.letGo(2);
            due("one more, when the last one is gone", x.chunk(x.put(0, 9, 5), 9), 66);
            x.graph(2, 2);
            due("those of a new GRAPH", x.chunk(0, 0), 0);
        });
        says("A VERSION that is made by a change of an ITEM has its PARENT's CHUNKS but for the one in which it is: "
            + "that is a new one", () -> {
            VersionChunks x = graphOf(6, 2);
            x.put(0, 2, 5);
            dueChunks(x, 1, 0, 3, 2);
            x.take(1, 2, 5);
            dueChunks(x, 2, 0, 4, 2);
            x.set(2, 0, 5, -1);
            dueChunks(x, 3, 0, 4, 5);
            x.set(3, 0, 5, 0);
            dueChunks(x, 4, 0, 4, 6);
            due("what is as it was before has a new one all the same", x.shared(0, 4), 1);
        });
        says("(A number that becomes what it is changes nothing: all are the PARENT's.)", () -> {
            for (long number : new long[] {0, 1, -1, Long.MIN_VALUE, Long.MAX_VALUE}) {
                VersionChunks x = graphOf(4, 2);
                x.set(0, 1, 3, number);
                int ever = x.count(3);
                due("set to what it is", x.set(1, 1, 3, number), 2);
                due("shared", x.shared(1, 2), 2);
                due("count(3)", x.count(3), ever);
                due("count(1)", x.count(1), 3);
                due("parent", x.parent(2), 1);
                due("at", x.at(2, 1, 3), number);
            }
            VersionChunks y = graphOf(4, 2);
            y.set(0, 1, 3, 1L << 32);
            y.set(1, 1, 3, 0);
            due("a number that differs above 32 bits alone is another", y.shared(1, 2), 1);
        });
    }

    /** Where a NODE's ITEMS are is seen by a change of one: it makes that chunk new, and no other. */
    private static void chunksOfNodes(int n, int size) {
        int chunks = 0;
        while (chunks * size < n) {
            chunks++;
        }
        String of = " of " + n + ", " + size;
        for (int node = 0; node < n; node++) {
            VersionChunks x = new VersionChunks();
            due("graph" + of, x.graph(n, size), chunks);
            due("chunk after the last" + of, x.chunk(0, chunks), NONE);
            x.put(0, node, n - 1 - node);
            x.set(0, 0, node, 1);
            x.set(0, 1, node, 1);
            for (int version = 1; version < 4; version++) {
                due("shared(0, " + version + ") by NODE " + node + of, x.shared(0, version), chunks - 1);
                due("chunk of NODE " + node + of, x.chunk(version, node / size), chunks - 1 + version);
            }
        }
    }

    // ---- Terms: JOINED

    private static void termsJoined() {
        in("Terms, JOINED");
        says("of each ITEM, if it is in a as in the base: as in b; else, if in b as in the base, or in a as in b: "
            + "as in a; else it is a CONFLICT", BoundaryTests::joinedItems);
        says("Without one a VERSION is made, its PARENT is a", () -> {
            VersionChunks x = graphOf(2, 1);
            x.put(0, 0, 0);
            x.put(0, 1, 1);
            due("join(0, 1, 2)", x.join(0, 1, 2), 3);
            due("parent(3)", x.parent(3), 1);
            due("join(0, 2, 1)", x.join(0, 2, 1), 4);
            due("parent(4)", x.parent(4), 2);
            due("join(1, 0, 0): b is a", x.join(1, 0, 0), 5);
            due("parent(5)", x.parent(5), 0);
            x.set(0, 0, 0, 1);
            x.set(0, 0, 0, 2);
            due("join with one", x.join(0, 6, 7), -11);
            due("no VERSION is made", x.count(1), 8);
        });
        says("if a's CHUNK is the base's: b's", () -> {
            VersionChunks x = graphOf(2, 2);
            x.set(0, 0, 0, 1);
            due("join(0, 0, 1)", x.chunk(x.join(0, 0, 1), 0), 1);
            due("join(0, 0, 0)", x.chunk(x.join(0, 0, 0), 0), 0);
            x.set(1, 0, 0, 0);
            due("b's is as the base's, but another one", x.chunk(x.join(0, 0, 4), 0), 2);
        });
        says("else, if b's is the base's or a's: a's", () -> {
            VersionChunks x = graphOf(2, 2);
            x.set(0, 0, 0, 1);
            x.set(1, 0, 0, 0);
            due("b's is the base's", x.chunk(x.join(0, 1, 0), 0), 1);
            due("b's is the base's, and a's is as it, but another one", x.chunk(x.join(0, 2, 0), 0), 2);
            due("b's is a's", x.chunk(x.join(0, 1, 1), 0), 1);
            due("b's is a's, and both are as the base's", x.chunk(x.join(0, 2, 2), 0), 2);
        });
        says("else, if its ITEMS are all as in a's, b's, the base's: the first of these CHUNKS", () -> {
            VersionChunks x = graphOf(2, 2);
            x.set(0, 0, 0, 1);
            x.set(0, 0, 0, 1);
            due("as in a's and b's: a's", x.chunk(x.join(0, 1, 2), 0), 1);
            due("as in a's and b's: a's, the other way", x.chunk(x.join(0, 2, 1), 0), 2);
            int more = x.set(2, 1, 1, 5);
            due("as in b's alone", x.chunk(x.join(0, 1, more), 0), x.chunk(more, 0));
            due("as in a's alone", x.chunk(x.join(0, more, 1), 0), x.chunk(more, 0));
            int back = x.set(1, 0, 0, 0);
            int again = x.set(1, 0, 0, 0);
            due("as in all three: a's", x.chunk(x.join(0, back, again), 0), x.chunk(back, 0));
            due("CHUNKS ever: none is new", x.count(3), 6);
            for (int k = 0; k < 3; k++) {
                joinBesideOthers(k);
            }
        });
        says("else a new one (by chunks from 0 on)", () -> {
            VersionChunks x = graphOf(5, 2);
            int a = x.put(x.put(x.put(0, 4, 0), 2, 0), 0, 0);
            int b = x.set(x.set(x.set(0, 0, 0, 1), 0, 3, 1), 1, 4, 1);
            due("CHUNKS ever", x.count(3), 9);
            dueChunks(x, x.join(0, a, b), 9, 10, 11);
            int c = x.set(a, 0, 2, 7);
            dueChunks(x, x.join(a, c, x.put(a, 2, 1)), x.chunk(a, 0), 14, x.chunk(a, 2));
            for (int node = 0; node < 5; node++) {
                VersionChunks y = graphOf(5, 2);
                y.set(0, 0, node, 1);
                y.set(0, 1, node, 1);
                due("of one NODE alone, " + node, y.chunk(y.join(0, 1, 2), node / 2), 5);
            }
        });
    }

    /** Chunk k is alike by two CHUNKS, in the NODES beside it a and b are unlike. */
    private static void joinBesideOthers(int k) {
        VersionChunks x = graphOf(8, 3);
        int a = x.set(0, 0, 3 * k, 1);
        int b = x.set(0, 0, 3 * k, 1);
        for (int node = 0; node < 8; node++) {
            if (node / 3 != k) {
                a = x.put(a, node, 0);
                b = x.put(b, node, 1);
            }
        }
        int ever = x.count(3);
        int joined = x.join(0, a, b);
        due("chunk " + k + " beside others", x.chunk(joined, k), x.chunk(a, k));
        due("CHUNKS that are new beside chunk " + k, x.count(3), ever + 2);
    }

    /** All ways in which a number can be in base, a and b, each of 0, 1, 2; then all ways of an ARC. */
    private static void joinedItems() {
        for (int base = 0; base < 3; base++) {
            VersionChunks x = graphOf(1, 1);
            int[] of = {x.set(0, 1, 0, 0), x.set(0, 1, 0, 1), x.set(0, 1, 0, Long.MIN_VALUE)};
            for (int a = 0; a < 3; a++) {
                for (int b = 0; b < 3; b++) {
                    int answer = x.join(of[base], of[a], of[b]);
                    String text = "join of numbers " + base + ", " + a + ", " + b;
                    if (a != base && b != base && a != b) {
                        due(text, answer, -11);
                    } else {
                        int joined = a == base ? b : a;
                        due(text + ": a VERSION", answer > 0 ? 1 : 0, 1);
                        due(text, x.at(answer, 1, 0), x.at(of[joined], 1, 0));
                    }
                }
            }
        }
        for (int ways = 0; ways < 8; ways++) {
            VersionChunks x = graphOf(1, 1);
            x.put(0, 0, 0);
            int base = ways & 1;
            int a = ways >> 1 & 1;
            int b = ways >> 2;
            due("join of ARCS " + base + ", " + a + ", " + b, x.join(base, a, b), 2);
            due("ARC joined of " + base + ", " + a + ", " + b, x.has(2, 0, 0), a == base ? b : a);
        }
    }

    // ---- Terms: let go; the order

    private static void termsLetGo() {
        in("Terms, let go");
        says("A VERSION is let go: it answers no more", () -> {
            VersionChunks x = graphOf(2, 1);
            x.put(0, 0, 1);
            x.set(1, 0, 0, 5);
            due("letGo(1)", x.letGo(1), 1);
            dueAll(x, BAD, allOn(1));
            due("time, no more the one let go", x.time(0), 2);
            due("what came from it answers", x.has(2, 0, 1), 1);
            due("what came from it can be changed", x.put(2, 1, 1), 3);
            due("letGo(3)", x.letGo(3), 1);
            due("time", x.time(0), 2);
        });
        says("A CHUNK that no VERSION has that was not let go is gone", () -> {
            VersionChunks x = graphOf(3, 1);
            x.put(0, 0, 0);
            x.put(1, 1, 1);
            x.put(1, 2, 2);
            due("CHUNKS", x.count(4), 6);
            due("letGo(1): VERSIONS 2 and 3 have its CHUNK", x.letGo(1), 0);
            due("letGo(2): its own", x.letGo(2), 1);
            due("CHUNKS", x.count(4), 5);
            due("letGo(3): its own and VERSION 1's", x.letGo(3), 2);
            due("CHUNKS: those of VERSION 0", x.count(4), 3);
            due("CHUNKS ever", x.count(3), 6);
        });
    }

    private static void termsOrder() {
        in("Terms");
        says("ITEMS are in order by NODES; of a NODE ARCS by where they lead, then COLUMNS", () -> {
            VersionChunks x = graphOf(64, 64);
            int[][] wanted = {{0, 0}, {0, 63}, {0, -1}, {0, -2}, {1, 0}, {1, 63}, {1, -2}, {62, -1}, {63, 0}, {63, 62},
                {63, 63}, {63, -1}, {63, -2}};
            int v = 0;
            // Changed from the last one on, so that the order is none of when they came.
            for (int i = wanted.length - 1; i >= 0; i--) {
                int node = wanted[i][0];
                int where = wanted[i][1];
                v = where >= 0 ? x.put(v, node, where) : x.set(v, -1 - where, node, 5 + i);
            }
            due("rows", x.rows(0, v), wanted.length);
            int arcs = 0;
            for (int k = 0; k < wanted.length; k++) {
                due("row(" + k + ", 0)", x.row(k, 0), wanted[k][0]);
                due("row(" + k + ", 1)", x.row(k, 1), wanted[k][1]);
                if (wanted[k][1] >= 0) {
                    due("arc(v, " + arcs + ", 0)", x.arc(v, arcs, 0), wanted[k][0]);
                    due("arc(v, " + arcs + ", 1)", x.arc(v, arcs, 1), wanted[k][1]);
                    arcs++;
                }
            }
            due("arc after the last", x.arc(v, arcs, 0), NONE);
        });
    }

    // ---- The promises

    private static void newObject() {
        in("Promise 1");
        says("No GRAPH; the clock is 0", () -> {
            VersionChunks x = new VersionChunks();
            for (int what = 0; what < 8; what++) {
                due("count(" + what + ")", x.count(what), 0);
            }
            dueAll(x, BAD, allOn(0));
            due("at(0, 0, 0)", x.at(0, 0, 0), 0);
            due("row(0, 0)", x.row(0, 0), NONE);
            due("was(0, 0)", x.was(0, 0), 0);
            due("was(0, 1)", x.was(0, 1), 0);
            due("conflict(0, 0)", x.conflict(0, 0), NONE);
            due("parent(0)", x.parent(0), BAD);
            due("ancestor(0, 0)", x.ancestor(0, 0), BAD);
            due("time(0)", x.time(0), NONE);
            due("time(MOST)", x.time(MOST), NONE);
            due("clock(-1)", x.clock(-1), BAD);
            due("clock(0)", x.clock(0), 0);
            VersionChunks y = graphOf(2, 1);
            y.put(0, 0, 0);
            y.clock(8);
            due("another object has no GRAPH still", x.count(1), 0);
            due("its clock is 0 still", x.count(7), 0);
        });
    }

    private static void graph() {
        in("Promise 2");
        says("A GRAPH, in place of the one before: how many chunks VERSION 0 has", () -> {
            VersionChunks x = new VersionChunks();
            int[][] sizes = {{1, 1, 1}, {1, 64, 1}, {64, 1, 64}, {64, 64, 1}, {64, 63, 2}, {63, 64, 1}, {64, 32, 2},
                {64, 31, 3}, {63, 32, 2}, {2, 2, 1}, {3, 2, 2}, {4, 2, 2}};
            for (int[] s : sizes) {
                due("graph(" + s[0] + ", " + s[1] + ")", x.graph(s[0], s[1]), s[2]);
                due("count(0)", x.count(0), s[0]);
                due("count(3)", x.count(3), s[2]);
                due("chunk of the last", x.chunk(0, s[2] - 1), s[2] - 1);
                due("chunk after it", x.chunk(0, s[2]), NONE);
                due("put", x.put(0, s[0] - 1, 0), 1);
                due("letGo", x.letGo(1), 1);
            }
            x.graph(3, 1);
            due("VERSIONS", x.count(1), 1);
            due("VERSIONS not let go", x.count(2), 1);
            due("CHUNKS not gone", x.count(4), 3);
            due("the VERSION of the one before", x.parent(1), BAD);
            x.set(0, 0, 1, 3);
            due("the new VERSION 1 is not let go", x.at(1, 0, 1), 3);
            due("it has nothing of the one before", x.rows(0, 1), 1);
        });
        says("(What was compared, told is gone; the clock stays.)", () -> {
            VersionChunks x = graphOf(2, 1);
            x.clock(6);
            x.set(0, 0, 0, 1);
            x.set(0, 0, 0, 2);
            x.rows(0, 1);
            x.join(0, 1, 2);
            due("graph(2, 1)", x.graph(2, 1), 2);
            due("count(5)", x.count(5), 0);
            due("count(6)", x.count(6), 0);
            due("count(7)", x.count(7), 6);
            due("row(0, 0)", x.row(0, 0), NONE);
            due("was(0, 1)", x.was(0, 1), 0);
            due("conflict(0, 0)", x.conflict(0, 0), NONE);
            due("turn(0)", x.turn(0), NO);
            due("time(5)", x.time(5), NONE);
            due("time(6)", x.time(6), 0);
            due("clock(5)", x.clock(5), BAD);
        });
        says("BAD: n, size are not 1 .. 64", () -> {
            VersionChunks x = new VersionChunks();
            for (int no : new int[] {0, -1, 65, 66, -64, LEAST, MOST}) {
                due("graph(" + no + ", 1)", x.graph(no, 1), BAD);
                due("graph(1, " + no + ")", x.graph(1, no), BAD);
                due("graph(64, " + no + ")", x.graph(64, no), BAD);
                due("graph(" + no + ", 64)", x.graph(no, 64), BAD);
                due("graph(" + no + ", " + no + ")", x.graph(no, no), BAD);
            }
            due("VERSIONS", x.count(1), 0);
            due("NODES", x.count(0), 0);
        });
    }

    private static void clock() {
        in("Promise 3");
        says("The clock comes to t: what it was", () -> {
            VersionChunks x = new VersionChunks();
            due("clock(0), what it is", x.clock(0), 0);
            due("clock(1)", x.clock(1), 0);
            due("clock(1), what it is", x.clock(1), 1);
            due("clock(MOST)", x.clock(MOST), 1);
            due("clock(MOST), what it is", x.clock(MOST), MOST);
            due("count(7)", x.count(7), MOST);
        });
        says("BAD: t is below it", () -> {
            VersionChunks x = new VersionChunks();
            due("clock(-1)", x.clock(-1), BAD);
            due("clock(LEAST)", x.clock(LEAST), BAD);
            x.clock(7);
            due("clock(6)", x.clock(6), BAD);
            due("clock(0)", x.clock(0), BAD);
            due("count(7)", x.count(7), 7);
            x.clock(MOST);
            due("clock(MOST - 1)", x.clock(MOST - 1), BAD);
            due("clock(LEAST)", x.clock(LEAST), BAD);
        });
        says("(A VERSION's TIME is the clock's when it is made.)", () -> {
            VersionChunks x = new VersionChunks();
            x.clock(1);
            x.graph(2, 1);
            x.clock(2);
            x.put(0, 0, 0);
            x.clock(3);
            x.take(1, 0, 0);
            x.clock(4);
            x.set(0, 0, 0, 0);
            x.clock(5);
            x.rows(0, 1);
            x.turn(0);
            x.clock(6);
            x.join(0, 0, 1);
            x.clock(7);
            for (int t = 1; t < 7; t++) {
                due("time(" + t + ")", x.time(t), t - 1);
            }
            due("time(0)", x.time(0), NONE);
        });
    }

    private static void put() {
        in("Promise 4");
        says("A VERSION with an ARC more: its number", () -> {
            VersionChunks x = graphOf(64, 64);
            int[][] ends = {{0, 0}, {0, 63}, {63, 0}, {63, 63}, {31, 32}, {32, 31}};
            for (int i = 0; i < ends.length; i++) {
                due("put " + i, x.put(i, ends[i][0], ends[i][1]), i + 1);
                due("ARCS in all", x.rows(0, i + 1), i + 1);
                due("ARCS more", x.rows(i, i + 1), 1);
            }
        });
        says("BAD: no such VERSION, NODES", () -> {
            VersionChunks x = graphOf(2, 1);
            dueAll(x, BAD, List.of(call("put(1, 0, 0)", y -> y.put(1, 0, 0)),
                call("put(-1, 0, 0)", y -> y.put(-1, 0, 0)),
                call("put(0, 2, 0)", y -> y.put(0, 2, 0)), call("put(0, -1, 0)", y -> y.put(0, -1, 0)),
                call("put(0, 0, 2)", y -> y.put(0, 0, 2)), call("put(0, 0, -1)", y -> y.put(0, 0, -1))));
            due("count(1)", x.count(1), 1);
        });
        says("NO: it is there", () -> {
            VersionChunks x = graphOf(2, 1);
            x.put(0, 0, 1);
            due("put of it", x.put(1, 0, 1), NO);
            due("put of the one back", x.put(1, 1, 0), 2);
            due("put of it where it is not", x.put(0, 0, 1), 3);
            x.take(1, 0, 1);
            due("put of it when it was taken", x.put(4, 0, 1), 5);
        });
        says("FULL", () -> {
            VersionChunks x = graphOf(2, 1);
            for (int i = 1; i < 59; i++) {
                x.set(0, 0, 0, i);
            }
            due("put of the last VERSION", x.put(0, 0, 0), 59);
            due("put of one more", x.put(0, 0, 0), FULL);
            due("put of one more, from the last", x.put(59, 0, 1), FULL);
        });
    }

    private static void take() {
        in("Promise 5");
        says("A VERSION with an ARC less: its number", () -> {
            VersionChunks x = graphOf(64, 64);
            int[][] ends = {{0, 0}, {0, 63}, {63, 0}, {63, 63}};
            for (int i = 0; i < 4; i++) {
                x.put(i, ends[i][0], ends[i][1]);
            }
            for (int i = 0; i < 4; i++) {
                due("take " + i, x.take(4 + i, ends[i][0], ends[i][1]), 5 + i);
                due("ARCS in all", x.rows(0, 5 + i), 3 - i);
                due("ARCS less", x.rows(4 + i, 5 + i), 1);
            }
        });
        says("BAD, NO: it is not there", () -> {
            VersionChunks x = graphOf(2, 1);
            x.put(0, 0, 1);
            dueAll(x, BAD, List.of(call("take(2, 0, 1)", y -> y.take(2, 0, 1)),
                call("take(-1, 0, 1)", y -> y.take(-1, 0, 1)), call("take(1, 2, 1)", y -> y.take(1, 2, 1)),
                call("take(1, -1, 1)", y -> y.take(1, -1, 1)), call("take(1, 0, 2)", y -> y.take(1, 0, 2)),
                call("take(1, 0, -1)", y -> y.take(1, 0, -1))));
            due("take of one that is not there", x.take(1, 1, 0), NO);
            due("take where it is not there yet", x.take(0, 0, 1), NO);
            due("take", x.take(1, 0, 1), 2);
            due("take of it again", x.take(2, 0, 1), NO);
            due("count(1)", x.count(1), 3);
        });
        says("FULL", () -> {
            VersionChunks x = graphOf(2, 1);
            for (int i = 0; i < 58; i++) {
                x.put(0, 0, 0);
            }
            due("take of the last VERSION", x.take(1, 0, 0), 59);
            due("take of one more", x.take(1, 0, 0), FULL);
        });
    }

    private static void set() {
        in("Promise 6");
        says("A VERSION with another number: its number", () -> {
            VersionChunks x = graphOf(64, 64);
            long[] numbers = {1, -1, Long.MAX_VALUE, Long.MIN_VALUE, 1L << 32, MOST, LEAST, NONE, BAD, 0};
            for (int i = 0; i < numbers.length; i++) {
                due("set " + i, x.set(i, 1, 63, numbers[i]), i + 1);
                due("at", x.at(i + 1, 1, 63), numbers[i]);
                due("at the other COLUMN", x.at(i + 1, 0, 63), 0);
            }
        });
        says("BAD: no such VERSION, COLUMN, NODE", () -> {
            VersionChunks x = graphOf(2, 1);
            dueAll(x, BAD, List.of(call("set(1, 0, 0, 1)", y -> y.set(1, 0, 0, 1)),
                call("set(-1, 0, 0, 1)", y -> y.set(-1, 0, 0, 1)), call("set(0, 2, 0, 1)", y -> y.set(0, 2, 0, 1)),
                call("set(0, -1, 1, 1)", y -> y.set(0, -1, 1, 1)), call("set(0, 0, 2, 1)", y -> y.set(0, 0, 2, 1)),
                call("set(0, 1, -1, 1)", y -> y.set(0, 1, -1, 1)),
                call("set(0, 2, 0, 0), to what it is", y -> y.set(0, 2, 0, 0))));
            due("count(1)", x.count(1), 1);
        });
        says("FULL", () -> {
            VersionChunks x = graphOf(2, 1);
            for (int i = 1; i < 59; i++) {
                x.put(0, 0, 0);
            }
            due("set of the last VERSION", x.set(0, 0, 0, 0), 59);
            due("set of one more", x.set(0, 0, 0, 1), FULL);
            due("set of one more, to what it is", x.set(0, 0, 0, 0), FULL);
        });
    }

    private static void has() {
        in("Promise 7");
        says("Whether an ARC is there: 1, 0", () -> {
            VersionChunks x = graphOf(64, 64);
            x.put(0, 63, 63);
            x.put(1, 0, 0);
            due("has(2, 63, 63)", x.has(2, 63, 63), 1);
            due("has(2, 0, 0)", x.has(2, 0, 0), 1);
            due("has(2, 63, 0)", x.has(2, 63, 0), 0);
            due("has(2, 0, 63)", x.has(2, 0, 63), 0);
            due("has(2, 62, 63)", x.has(2, 62, 63), 0);
            due("has(2, 63, 62)", x.has(2, 63, 62), 0);
            due("has(0, 63, 63)", x.has(0, 63, 63), 0);
        });
        says("BAD: no such VERSION, NODES", () -> {
            VersionChunks x = graphOf(2, 1);
            x.put(0, 0, 0);
            dueAll(x, BAD, List.of(call("has(2, 0, 0)", y -> y.has(2, 0, 0)),
                call("has(-1, 0, 0)", y -> y.has(-1, 0, 0)),
                call("has(1, 2, 0)", y -> y.has(1, 2, 0)), call("has(1, -1, 0)", y -> y.has(1, -1, 0)),
                call("has(1, 0, 2)", y -> y.has(1, 0, 2)), call("has(1, 0, -1)", y -> y.has(1, 0, -1)),
                call("has(1, 0, 64)", y -> y.has(1, 0, 64)), call("has(1, 64, 0)", y -> y.has(1, 64, 0))));
        });
    }

    private static void at() {
        in("Promise 8");
        says("0: no such VERSION, COLUMN, NODE", () -> {
            VersionChunks x = graphOf(2, 1);
            x.set(0, 0, 0, 3);
            x.set(1, 1, 0, 4);
            x.set(2, 0, 1, 5);
            x.set(3, 1, 1, 6);
            x.set(4, 1, 1, 7);
            x.letGo(5);
            due("at(4, 0, 0)", x.at(4, 0, 0), 3);
            due("at(4, 1, 1)", x.at(4, 1, 1), 6);
            dueAll(x, 0, List.of(call("at(5, 1, 1)", y -> y.at(5, 1, 1)), call("at(6, 1, 1)", y -> y.at(6, 1, 1)),
                call("at(-1, 1, 1)", y -> y.at(-1, 1, 1)), call("at(4, 2, 0)", y -> y.at(4, 2, 0)),
                call("at(4, -1, 1)", y -> y.at(4, -1, 1)), call("at(4, 0, 2)", y -> y.at(4, 0, 2)),
                call("at(4, 1, -1)", y -> y.at(4, 1, -1)), call("at(4, LEAST, MOST)", y -> y.at(4, LEAST, MOST))));
        });
    }

    private static void arc() {
        in("Promise 9");
        says("The k-th ARC that is there: from (what = 0), to (1)", () -> {
            VersionChunks x = graphOf(64, 64);
            int v = 0;
            for (int to = 63; to >= 15; to--) {
                v = x.put(v, 63, to);
            }
            for (int k = 0; k < 49; k++) {
                due("arc(v, " + k + ", 0)", x.arc(v, k, 0), 63);
                due("arc(v, " + k + ", 1)", x.arc(v, k, 1), 15 + k);
            }
            v = x.put(v, 0, 0);
            due("the first one: from", x.arc(v, 0, 0), 0);
            due("the first one: to", x.arc(v, 0, 1), 0);
            due("the last one: from", x.arc(v, 49, 0), 63);
            due("the last one: to", x.arc(v, 49, 1), 63);
        });
        says("NONE: none such", () -> {
            VersionChunks x = graphOf(3, 1);
            due("without ARCS", x.arc(0, 0, 0), NONE);
            x.put(0, 2, 1);
            x.put(1, 0, 2);
            for (int k : new int[] {2, 3, -1, -2, LEAST, MOST}) {
                due("arc(2, " + k + ", 0)", x.arc(2, k, 0), NONE);
                due("arc(2, " + k + ", 1)", x.arc(2, k, 1), NONE);
            }
            due("the last one", x.arc(2, 1, 0), 2);
            x.take(1, 2, 1);
            due("when the one ARC was taken", x.arc(3, 0, 1), NONE);
        });
        says("BAD: no such VERSION, what", () -> {
            VersionChunks x = graphOf(3, 1);
            x.put(0, 2, 1);
            for (int what : new int[] {-1, 2, LEAST, MOST}) {
                due("arc(1, 0, " + what + ")", x.arc(1, 0, what), BAD);
                due("arc(1, 1, " + what + ")", x.arc(1, 1, what), BAD);
            }
            due("arc(2, 0, 0)", x.arc(2, 0, 0), BAD);
            due("arc(-1, 0, 0)", x.arc(-1, 0, 0), BAD);
        });
    }

    private static void reach() {
        in("Promise 10");
        says("The least number of ARCS that lead from a NODE to another one (itself: 0)", () -> {
            // With 60 VERSIONS no way is longer than 59 ARCS; it meets all NODES of a GRAPH of 60.
            for (int n : new int[] {2, 3, 59, 60}) {
                VersionChunks x = graphOf(n, 64);
                VersionChunks y = graphOf(n, 64);
                for (int i = 0; i < n - 1; i++) {
                    x.put(i, i, i + 1);
                    y.put(i, n - 1 - i, n - 2 - i);
                }
                due("reach on through " + n, x.reach(n - 1, 0, n - 1), n - 1);
                due("reach back through " + n, y.reach(n - 1, n - 1, 0), n - 1);
                due("reach of a part", x.reach(n - 1, 0, n - 2), n - 2);
                due("reach of one", x.reach(n - 1, n - 2, n - 1), 1);
            }
            VersionChunks x = graphOf(64, 64);
            due("itself, without ARCS", x.reach(0, 63, 63), 0);
            x.put(0, 63, 63);
            due("itself, with an ARC", x.reach(1, 63, 63), 0);
            x.put(1, 63, 0);
            x.put(2, 0, 63);
            due("itself, round", x.reach(3, 0, 0), 0);
            x.put(3, 0, 1);
            x.put(4, 1, 2);
            due("a way of three", x.reach(5, 63, 2), 3);
            x.put(5, 63, 2);
            due("the shorter one", x.reach(6, 63, 2), 1);
        });
        says("NONE: none do", () -> {
            VersionChunks x = graphOf(64, 64);
            due("without ARCS", x.reach(0, 0, 63), NONE);
            x.put(0, 0, 63);
            due("against the ARC", x.reach(1, 63, 0), NONE);
            due("to one apart", x.reach(1, 0, 62), NONE);
            x.put(1, 63, 0);
            due("out of a round", x.reach(2, 0, 1), NONE);
            x.take(1, 0, 63);
            due("when the ARC was taken", x.reach(3, 0, 63), NONE);
        });
        says("BAD: no such VERSION, NODES", () -> {
            VersionChunks x = graphOf(2, 1);
            dueAll(x, BAD, List.of(call("reach(1, 0, 0)", y -> y.reach(1, 0, 0)),
                call("reach(-1, 0, 0)", y -> y.reach(-1, 0, 0)), call("reach(0, 2, 2)", y -> y.reach(0, 2, 2)),
                call("reach(0, -1, -1)", y -> y.reach(0, -1, -1)), call("reach(0, 0, 2)", y -> y.reach(0, 0, 2)),
                call("reach(0, 0, -1)", y -> y.reach(0, 0, -1)), call("reach(0, 2, 0)", y -> y.reach(0, 2, 0)),
                call("reach(0, 64, 64)", y -> y.reach(0, 64, 64))));
        });
    }

    private static void rows() {
        in("Promise 11");
        says("Two VERSIONS are compared: how many ITEMS are unlike; these are the ROWS", () -> {
            VersionChunks x = graphOf(64, 64);
            due("one with itself", x.rows(0, 0), 0);
            due("count(5)", x.count(5), 0);
            int v = 0;
            for (int i = 0; i < 14; i++) {
                v = x.put(v, 63 - i, i);
                v = x.set(v, 0, i, Long.MIN_VALUE);
                v = x.set(v, 1, 63 - i, 1L << 32);
            }
            due("rows(0, v)", x.rows(0, v), 42);
            due("rows(v, 0)", x.rows(v, 0), 42);
            due("count(5)", x.count(5), 42);
            v = x.set(v, 1, 63, 0);
            due("rows of one set back", x.rows(0, v), 41);
            int same = x.set(v, 0, 0, Long.MIN_VALUE);
            due("rows of two alike", x.rows(v, same), 0);
            due("count(5) of two alike", x.count(5), 0);
        });
        says("BAD: no such VERSIONS", () -> {
            VersionChunks x = graphOf(2, 1);
            x.put(0, 0, 1);
            x.rows(0, 1);
            for (int no : new int[] {2, -1, 60, LEAST, MOST}) {
                due("rows(" + no + ", 0)", x.rows(no, 0), BAD);
                due("rows(0, " + no + ")", x.rows(0, no), BAD);
                due("rows(" + no + ", " + no + ")", x.rows(no, no), BAD);
            }
            due("the ROWS before stay", x.count(5), 1);
        });
    }

    private static void row() {
        in("Promise 12");
        says("Of ROW k of the latest rows(): 0 its NODE; 1 where the ARC leads, or -1 less the COLUMN", () -> {
            VersionChunks x = graphOf(64, 64);
            x.put(0, 0, 0);
            x.set(1, 0, 0, 1);
            x.set(2, 1, 0, 1);
            x.put(3, 63, 63);
            x.rows(0, 4);
            int[][] wanted = {{0, 0}, {0, -1}, {0, -2}, {63, 63}};
            for (int k = 0; k < 4; k++) {
                due("row(" + k + ", 0)", x.row(k, 0), wanted[k][0]);
                due("row(" + k + ", 1)", x.row(k, 1), wanted[k][1]);
            }
            x.rows(3, 4);
            due("the latest: row(0, 0)", x.row(0, 0), 63);
            due("the latest: row(1, 0)", x.row(1, 0), NONE);
        });
        says("NONE: none such", () -> {
            VersionChunks x = graphOf(2, 1);
            due("before rows()", x.row(0, 0), NONE);
            x.set(0, 0, 1, 1);
            x.put(1, 0, 1);
            x.rows(0, 2);
            for (int k : new int[] {2, 3, -1, LEAST, MOST}) {
                due("row(" + k + ", 0)", x.row(k, 0), NONE);
                due("row(" + k + ", 1)", x.row(k, 1), NONE);
            }
            for (int what : new int[] {2, 3, -1, LEAST, MOST}) {
                due("row(0, " + what + ")", x.row(0, what), NONE);
                due("row(1, " + what + ")", x.row(1, what), NONE);
            }
            x.rows(2, 2);
            due("of rows() without any", x.row(0, 0), NONE);
        });
    }

    private static void was() {
        in("Promise 13");
        says("What the ITEM of ROW k is in a (side 0), b (1): of an ARC 1, 0; of a COLUMN its number", () -> {
            VersionChunks x = graphOf(64, 64);
            x.put(0, 0, 0);
            x.set(1, 0, 0, Long.MIN_VALUE);
            x.set(0, 1, 63, Long.MAX_VALUE);
            x.put(3, 63, 63);
            x.rows(2, 4);
            long[][] wanted = {{1, 0}, {Long.MIN_VALUE, 0}, {0, 1}, {0, Long.MAX_VALUE}};
            for (int k = 0; k < 4; k++) {
                due("was(" + k + ", 0)", x.was(k, 0), wanted[k][0]);
                due("was(" + k + ", 1)", x.was(k, 1), wanted[k][1]);
            }
            x.letGo(2);
            x.letGo(4);
            due("was(1, 0), when a was let go", x.was(1, 0), Long.MIN_VALUE);
            due("was(3, 1), when b was let go", x.was(3, 1), Long.MAX_VALUE);
        });
        says("0: none such", () -> {
            VersionChunks x = graphOf(2, 1);
            due("before rows()", x.was(0, 1), 0);
            x.set(0, 0, 0, 8);
            x.set(1, 0, 1, 9);
            x.set(0, 0, 0, 4);
            x.set(3, 0, 1, 5);
            x.rows(2, 4);
            for (int k : new int[] {2, 3, -1, LEAST, MOST}) {
                due("was(" + k + ", 0)", x.was(k, 0), 0);
                due("was(" + k + ", 1)", x.was(k, 1), 0);
            }
            for (int side : new int[] {2, 3, -1, LEAST, MOST}) {
                due("was(0, " + side + ")", x.was(0, side), 0);
                due("was(1, " + side + ")", x.was(1, side), 0);
            }
            x.rows(2, 2);
            due("of rows() without any", x.was(0, 0), 0);
        });
    }

    private static void turn() {
        in("Promise 14");
        says("A VERSION becomes another one by the ROWS of the latest rows(), each ITEM becoming what it is in b: its "
            + "number", () -> {
            VersionChunks x = graphOf(64, 64);
            x.put(0, 0, 0);
            x.set(1, 0, 0, Long.MIN_VALUE);
            x.put(2, 63, 63);
            x.set(3, 1, 63, -1);
            x.set(0, 0, 5, 6);
            x.rows(0, 4);
            due("turn of another one", x.turn(5), 6);
            due("all is as in b", x.rows(4, 6), 1);
            due("but what is in no ROW", x.at(6, 0, 5), 6);
            x.rows(4, 0);
            due("turn back", x.turn(6), 7);
            due("it is as it was", x.rows(5, 7), 0);
            due("turn by no ROWS", x.turn(7), 8);
            due("its PARENT", x.parent(8), 7);
        });
        says("(NO without such rows()", () -> {
            VersionChunks x = graphOf(2, 1);
            due("turn(0)", x.turn(0), NO);
            x.rows(0, 1);
            due("after rows() that were BAD", x.turn(0), NO);
            x.rows(0, 0);
            due("after rows() of two alike", x.turn(0), 1);
            x.graph(2, 1);
            due("in a new GRAPH", x.turn(0), NO);
        });
        says("also if an ITEM is in it neither as in a nor as in b)", () -> {
            for (int node = 0; node < 64; node += 63) {
                for (int column = 0; column < 2; column++) {
                    VersionChunks x = graphOf(64, 64);
                    x.set(0, column, node, 1);
                    x.set(0, column, node, 2);
                    x.rows(1, 2);
                    due("neither", x.turn(0), NO);
                    due("as in a", x.turn(1), 3);
                    due("as in b", x.turn(2), 4);
                    due("as in b by now", x.turn(3), 5);
                    x.set(1, 1 - column, node, 9);
                    due("the other COLUMN is in no ROW", x.turn(6), 7);
                    due("count(1)", x.count(1), 8);
                }
            }
            VersionChunks y = graphOf(2, 2);
            y.put(0, 1, 1);
            y.rows(0, 1);
            due("an ARC is always as in one of them", y.turn(0), 2);
            due("an ARC is always as in one of them", y.turn(1), 3);
            y.set(0, 0, 0, 1);
            y.rows(4, y.set(y.put(4, 0, 0), 0, 0, 2));
            due("one of two ITEMS is neither", y.turn(0), NO);
        });
        says("Its CHUNKS: those of it, but new ones for those in which something changed, by chunks", () -> {
            VersionChunks x = graphOf(7, 2);
            x.put(0, 6, 0);
            x.set(1, 0, 2, 1);
            x.put(2, 0, 6);
            x.rows(0, 3);
            dueChunks(x, x.turn(0), 7, 8, 2, 9);
            dueChunks(x, x.turn(1), 10, 11, 2, 4);
            dueChunks(x, x.turn(3), 6, 5, 2, 4);
            due("CHUNKS ever", x.count(3), 12);
            for (int[] s : new int[][] {{7, 3}, {6, 2}, {5, 4}, {5, 1}}) {
                for (int node = 0; node < s[0]; node++) {
                    turnAtOneNode(s[0], s[1], node);
                }
            }
        });
        says("BAD: no such VERSION", () -> {
            VersionChunks x = graphOf(2, 1);
            x.put(0, 0, 0);
            for (int no : new int[] {2, -1, 60, LEAST, MOST}) {
                due("turn(" + no + ") without rows()", x.turn(no), BAD);
            }
            x.rows(0, 1);
            for (int no : new int[] {2, -1, 60, LEAST, MOST}) {
                due("turn(" + no + ")", x.turn(no), BAD);
            }
        });
        says("FULL", () -> {
            VersionChunks x = graphOf(2, 1);
            for (int i = 1; i < 59; i++) {
                x.put(0, 0, 0);
            }
            x.rows(0, 1);
            due("turn of the last VERSION", x.turn(0), 59);
            due("turn of one more", x.turn(0), FULL);
            due("turn that changes nothing", x.turn(1), FULL);
        });
    }

    private static void turnAtOneNode(int n, int size, int node) {
        VersionChunks x = new VersionChunks();
        int chunks = x.graph(n, size);
        x.set(0, 1, node, 1);
        x.rows(0, 1);
        due("turn at NODE " + node, x.turn(0), 2);
        due("shared at NODE " + node + " of " + n + ", " + size, x.shared(0, 2), chunks - 1);
        due("chunk at NODE " + node + " of " + n + ", " + size, x.chunk(2, node / size), chunks + 1);
    }

    private static void join() {
        in("Promise 15");
        says("a and b are JOINED: the VERSION's number", () -> {
            VersionChunks x = graphOf(64, 1);
            due("all the same", x.join(0, 0, 0), 1);
            due("it shares all", x.shared(0, 1), 64);
            x.put(0, 0, 63);
            x.set(0, 1, 63, 4);
            due("the first and the last NODE", x.join(0, 2, 3), 4);
            due("of a", x.has(4, 0, 63), 1);
            due("of b", x.at(4, 1, 63), 4);
            due("ROWS from the base", x.rows(0, 4), 2);
            due("from one that none of them comes from", x.join(3, 2, 0), 5);
            due("what is in a as in the base, and in b as in the base", x.rows(5, 2), 0);
        });
        says("-10 less how many CONFLICTS there are, which are told then in place of those before", () -> {
            for (int many : new int[] {1, 2, 29}) {
                VersionChunks x = graphOf(64, 10);
                int a = 0;
                int b = 0;
                for (int i = 0; i < many; i++) {
                    a = x.set(a, i % 2, 63 - i, 1);
                    b = x.set(b, i % 2, 63 - i, 2);
                }
                due("join of " + many, x.join(0, a, b), -10 - many);
                due("count(6)", x.count(6), many);
                due("the last one", x.conflict(many - 1, 0), 63);
                due("none after it", x.conflict(many, 0), NONE);
                due("fewer in their place", x.join(0, 1, b), -11);
                due("count(6) of these", x.count(6), 1);
                due("the one", x.conflict(0, 0), 63);
                due("none after it", x.conflict(1, 0), NONE);
            }
        });
        says("BAD: no such VERSIONS", () -> {
            VersionChunks x = graphOf(2, 1);
            x.put(0, 0, 0);
            for (int no : new int[] {2, -1, 60, LEAST, MOST}) {
                due("join(" + no + ", 0, 1)", x.join(no, 0, 1), BAD);
                due("join(0, " + no + ", 1)", x.join(0, no, 1), BAD);
                due("join(0, 1, " + no + ")", x.join(0, 1, no), BAD);
            }
            due("count(1)", x.count(1), 2);
        });
        says("FULL (-3; CONFLICTS go ahead)", () -> {
            VersionChunks x = graphOf(2, 1);
            x.set(0, 0, 1, 1);
            x.set(0, 0, 1, 2);
            x.put(0, 0, 0);
            for (int i = 4; i < 59; i++) {
                x.set(0, 0, 0, 0);
            }
            due("join of the last VERSION", x.join(0, 1, 3), 59);
            due("join of one more", x.join(0, 1, 3), FULL);
            due("no CONFLICTS by that", x.count(6), 0);
            due("join of two unlike", x.join(0, 1, 2), -11);
            due("they are told", x.conflict(0, 0), 1);
            due("join of one more", x.join(0, 2, 3), FULL);
            due("those told stay", x.count(6), 1);
        });
    }

    private static void conflict() {
        in("Promise 16");
        says("Of CONFLICT k of the latest join() that had some: as row()", () -> {
            VersionChunks x = graphOf(64, 64);
            due("before a join()", x.conflict(0, 0), NONE);
            int a = x.set(x.set(x.set(0, 0, 0, 1), 1, 0, 1), 1, 63, 1);
            int b = x.set(x.set(x.set(0, 0, 0, 2), 1, 0, 2), 1, 63, 2);
            x.join(0, 0, a);
            due("after a join() that had none", x.conflict(0, 0), NONE);
            due("join", x.join(0, a, b), -13);
            int[][] wanted = {{0, -1}, {0, -2}, {63, -2}};
            for (int k = 0; k < 3; k++) {
                due("conflict(" + k + ", 0)", x.conflict(k, 0), wanted[k][0]);
                due("conflict(" + k + ", 1)", x.conflict(k, 1), wanted[k][1]);
            }
            for (int k : new int[] {3, 4, -1, LEAST, MOST}) {
                due("conflict(" + k + ", 0)", x.conflict(k, 0), NONE);
                due("conflict(" + k + ", 1)", x.conflict(k, 1), NONE);
            }
            for (int what : new int[] {2, 3, -1, LEAST, MOST}) {
                due("conflict(0, " + what + ")", x.conflict(0, what), NONE);
            }
            due("a join() that has none", x.join(0, 0, b), 8);
            due("a join() that is BAD", x.join(0, a, 60), BAD);
            x.rows(0, a);
            x.rows(0, 0);
            x.letGo(a);
            x.letGo(b);
            due("they stay", x.conflict(2, 0), 63);
            due("join of fewer", x.join(0, 1, 4), -11);
            due("conflict(0, 1)", x.conflict(0, 1), -1);
            due("conflict(1, 1)", x.conflict(1, 1), NONE);
        });
    }

    private static void letGo() {
        in("Promise 17");
        says("A VERSION (not 0) is let go: how many CHUNKS are gone by that", () -> {
            VersionChunks x = graphOf(64, 1);
            int v = 0;
            for (int i = 0; i < 28; i++) {
                v = x.put(v, i, 63);
            }
            x.rows(0, v);
            int all = x.turn(0);
            int none = x.set(0, 0, 0, 0);
            due("one with no CHUNK of its own", x.letGo(none), 0);
            due("one with many", x.letGo(all), 28);
            due("CHUNKS", x.count(4), 64 + 28);
            due("the last of a chain", x.letGo(v), 1);
            due("the first of a chain", x.letGo(1), 0);
            for (int i = 2; i < 27; i++) {
                due("one within a chain", x.letGo(i), 0);
            }
            due("the one that has all that is left", x.letGo(27), 27);
            due("CHUNKS: those of VERSION 0", x.count(4), 64);
            due("VERSIONS", x.count(2), 1);
            due("numbers go on", x.put(0, 0, 0), 31);
            due("of CHUNKS, too", x.chunk(31, 0), 64 + 28 + 28);
            VersionChunks y = graphOf(3, 64);
            y.put(0, 0, 0);
            y.set(1, 0, 0, 0);
            due("a CHUNK that another one has", y.letGo(1), 0);
            due("the other one", y.letGo(2), 1);
        });
        says("BAD: no such VERSION, or 0", () -> {
            VersionChunks x = graphOf(2, 1);
            due("letGo(0), the only one", x.letGo(0), BAD);
            x.put(0, 0, 0);
            for (int no : new int[] {0, 2, -1, 59, 60, LEAST, MOST}) {
                due("letGo(" + no + ")", x.letGo(no), BAD);
            }
            due("count(2)", x.count(2), 2);
            due("letGo(1)", x.letGo(1), 1);
            due("letGo(1) again", x.letGo(1), BAD);
            due("count(2)", x.count(2), 1);
            due("count(4)", x.count(4), 2);
            due("letGo(0)", x.letGo(0), BAD);
            due("VERSION 0 answers", x.has(0, 0, 0), 0);
        });
    }

    private static void chunk() {
        in("Promise 18");
        says("NONE: no such chunk", () -> {
            int[][] sizes = {{1, 1}, {64, 1}, {64, 64}, {5, 2}};
            for (int[] s : sizes) {
                VersionChunks x = new VersionChunks();
                int chunks = x.graph(s[0], s[1]);
                x.set(0, 0, s[0] - 1, 1);
                due("the last chunk", x.chunk(1, chunks - 1), chunks);
                for (int k : new int[] {chunks, chunks + 1, 64, -1, LEAST, MOST}) {
                    due("chunk(0, " + k + ")", x.chunk(0, k), NONE);
                    due("chunk(1, " + k + ")", x.chunk(1, k), NONE);
                }
            }
        });
        says("BAD (-1): no such VERSION", () -> {
            VersionChunks x = graphOf(2, 1);
            for (int no : new int[] {1, -1, 60, LEAST, MOST}) {
                due("chunk(" + no + ", 0)", x.chunk(no, 0), BAD);
                due("chunk(" + no + ", 2)", x.chunk(no, 2), BAD);
            }
        });
    }

    private static void shared() {
        in("Promise 19");
        says("How many CHUNKS two VERSIONS have in common", () -> {
            VersionChunks x = graphOf(64, 1);
            due("one with itself: all", x.shared(0, 0), 64);
            x.put(0, 63, 0);
            x.put(0, 63, 0);
            due("but for one", x.shared(0, 1), 63);
            due("the other way", x.shared(1, 0), 63);
            due("alike, but not in common", x.shared(1, 2), 63);
            x.take(1, 63, 0);
            due("as it was before, but not in common", x.shared(0, 3), 63);
            VersionChunks y = graphOf(2, 2);
            y.put(0, 0, 0);
            due("none", y.shared(0, 1), 0);
        });
        says("BAD: no such VERSIONS", () -> {
            VersionChunks x = graphOf(2, 1);
            for (int no : new int[] {1, -1, 60, LEAST, MOST}) {
                due("shared(" + no + ", 0)", x.shared(no, 0), BAD);
                due("shared(0, " + no + ")", x.shared(0, no), BAD);
                due("shared(" + no + ", " + no + ")", x.shared(no, no), BAD);
            }
        });
    }

    private static void parent() {
        in("Promise 20");
        says("The PARENT of a VERSION (let go or not); NONE: of 0", () -> {
            VersionChunks x = graphOf(2, 1);
            for (int i = 1; i < VERSIONS; i++) {
                x.set(i - 1, 0, 0, i);
            }
            due("parent(0)", x.parent(0), NONE);
            due("parent(1)", x.parent(1), 0);
            due("parent(59)", x.parent(59), 58);
            x.letGo(58);
            due("parent(59), its PARENT let go", x.parent(59), 58);
            due("parent(58), it let go", x.parent(58), 57);
            x.letGo(59);
            due("parent(59), both let go", x.parent(59), 58);
        });
        says("BAD: none such was ever", () -> {
            VersionChunks x = graphOf(2, 1);
            x.put(0, 0, 0);
            for (int no : new int[] {2, 59, 60, -1, LEAST, MOST, NONE}) {
                due("parent(" + no + ")", x.parent(no), BAD);
            }
            x.graph(2, 1);
            due("one of the GRAPH before", x.parent(1), BAD);
        });
    }

    private static void ancestor() {
        in("Promise 21");
        says("The latest VERSION (let go or not) from which two (let go or not) come by PARENTS, or that is one of "
            + "them", () -> {
            VersionChunks x = graphOf(2, 1);
            due("of VERSION 0 alone", x.ancestor(0, 0), 0);
            for (int i = 1; i < 30; i++) {
                x.set(i - 1, 0, 0, i);
            }
            x.set(0, 0, 0, 1);
            for (int i = 31; i < VERSIONS; i++) {
                x.set(i - 1, 0, 0, i);
            }
            due("the ends of two long ways", x.ancestor(29, 59), 0);
            due("the other way", x.ancestor(59, 29), 0);
            due("one and what comes from it", x.ancestor(31, 59), 31);
            due("the other way", x.ancestor(59, 31), 31);
            due("one and VERSION 0", x.ancestor(59, 0), 0);
            due("one and itself", x.ancestor(59, 59), 59);
            for (int i = 1; i < VERSIONS; i++) {
                x.letGo(i);
            }
            due("all let go: one and itself", x.ancestor(59, 59), 59);
            due("all let go: one and what comes from it", x.ancestor(31, 59), 31);
            due("all let go: two of one way", x.ancestor(7, 29), 7);
            VersionChunks y = graphOf(2, 1);
            y.put(0, 0, 0);
            y.put(1, 0, 1);
            y.put(1, 1, 1);
            y.put(0, 1, 0);
            due("the latest one from which two come", y.ancestor(2, 3), 1);
            y.letGo(1);
            due("it is let go", y.ancestor(3, 2), 1);
            y.join(0, 4, 2);
            due("a joined one and its b", y.ancestor(5, 2), 0);
            due("a joined one and its a", y.ancestor(5, 4), 4);
        });
        says("BAD: none such was ever", () -> {
            VersionChunks x = graphOf(2, 1);
            x.put(0, 0, 0);
            for (int no : new int[] {2, 59, 60, -1, LEAST, MOST, NONE}) {
                due("ancestor(" + no + ", 0)", x.ancestor(no, 0), BAD);
                due("ancestor(1, " + no + ")", x.ancestor(1, no), BAD);
                due("ancestor(" + no + ", " + no + ")", x.ancestor(no, no), BAD);
            }
        });
    }

    private static void time() {
        in("Promise 22");
        says("The latest VERSION (the greatest number; not let go) whose TIME is at most t; NONE", () -> {
            VersionChunks x = new VersionChunks();
            due("without a GRAPH", x.time(MOST), NONE);
            x.clock(5);
            x.graph(2, 1);
            due("time(4)", x.time(4), NONE);
            due("time(LEAST)", x.time(LEAST), NONE);
            due("time(5)", x.time(5), 0);
            due("time(6)", x.time(6), 0);
            due("time(MOST)", x.time(MOST), 0);
            x.put(0, 0, 0);
            x.put(0, 0, 0);
            due("of several of one TIME", x.time(5), 2);
            x.clock(MOST);
            x.put(0, 0, 0);
            due("time(MOST)", x.time(MOST), 3);
            due("time(MOST - 1)", x.time(MOST - 1), 2);
            x.letGo(2);
            due("one let go", x.time(MOST - 1), 1);
            x.letGo(1);
            due("both let go", x.time(MOST - 1), 0);
            x.letGo(3);
            due("all let go but 0", x.time(MOST), 0);
            due("time(4)", x.time(4), NONE);
            VersionChunks y = graphOf(2, 1);
            fill(y);
            due("the last of all", y.time(0), 59);
            due("time(-1)", y.time(-1), NONE);
        });
    }

    private static void count() {
        in("Promise 23");
        says("How many: 0 NODES, 1 VERSIONS ever, 2 not let go, 3 CHUNKS ever, 4 not gone, 5 ROWS of the latest "
            + "rows(), 6 CONFLICTS told; 7 the clock", () -> {
            VersionChunks x = graphOf(64, 1);
            x.clock(MOST);
            x.set(0, 0, 0, 1);
            x.set(0, 0, 0, 2);
            x.set(2, 1, 63, 3);
            x.letGo(3);
            x.rows(0, 2);
            x.join(0, 1, 2);
            int[] wanted = {64, 4, 3, 67, 66, 1, 1, MOST};
            for (int what = 0; what < 8; what++) {
                due("count(" + what + ")", x.count(what), wanted[what]);
            }
            fill(x);
            due("count(1) when FULL", x.count(1), 60);
            due("count(2) when FULL", x.count(2), 59);
        });
        says("BAD: another what", () -> {
            VersionChunks x = graphOf(2, 1);
            for (int what : new int[] {8, 9, -1, -2, LEAST, MOST}) {
                due("count(" + what + ")", x.count(what), BAD);
                due("count(" + what + ") without a GRAPH", new VersionChunks().count(what), BAD);
            }
        });
    }
}
