import java.util.Arrays;

/**
 * Each sentence of the document that names a boundary case, by its words: what is just inside and just outside, the
 * empty and the full one, what wraps around, what a refused call leaves as it was, which answer comes first where two
 * would fit. Answers are worked out by hand.
 */
public final class EdgesTest {
    private static final int BAD = -1, FULL = -2, FINDING = -3, STATE = -4, NONE = -9;
    private static final int NOTHING = 1, BEYOND = 2, UNLIKE = 3, NOUGHT = 4, SIZE = 5;
    private static final int MAX = Integer.MAX_VALUE, MIN = Integer.MIN_VALUE;
    /** THINGS 0 THING, 1 BAG (with 0), 2 HEAVY (with 1), 3 LIVING (with 2), 4 SACK (on the BEACH); three WORKS. */
    private static final String ISLAND = "p3 t0 b0 h1 l2 sz w000:3 w1123:5 w5204:9";

    private interface Call {
        long on(ThreeThings x);
    }

    private static int wrong = 0;
    private static int promise = 0;
    private static String sentence = "";
    private static final int[] edges = new int[51];

    private static void edge(int ofPromise, String words) {
        promise = ofPromise;
        sentence = words;
        edges[ofPromise]++;
    }

    private static void due(String call, long got, long want) {
        if (got == want) return;
        wrong++;
        System.out.println("promise " + promise + " (" + sentence + "): " + call + " is " + got + ", due is " + want);
    }

    private static void told(String call, ThreeThings x, long got, long want, int asked) {
        due(call, got, want);
        due("asked() behind " + call, x.asked(), asked);
    }

    /** All that calls tell of an object, but what was found. */
    private static long[] whole(ThreeThings x) {
        return new long[] {x.digest(), x.asked(), x.upper(), x.lower()};
    }

    private static long[] found(ThreeThings x) {
        long[] found = new long[6];
        found[0] = x.finding();
        for (int f = 1; f <= 5; f++) found[f] = x.findings(f);
        return found;
    }

    private static void same(String what, long[] got, long[] want) {
        for (int i = 0; i < want.length; i++) due(what + ", its " + i, got[i], want[i]);
    }

    /** A call is refused, and leaves all as it was. */
    private static void refused(ThreeThings x, String call, int want, Call c) {
        long[] before = whole(x);
        long[] was = found(x);
        due(call, c.on(x), want);
        same("all behind " + call, whole(x), before);
        same("what was found behind " + call, found(x), was);
    }

    /** A call is refused by a FINDING, and leaves all but that as it was. */
    private static void finds(ThreeThings x, String call, int finding, Call c) {
        long[] before = whole(x);
        long[] was = found(x);
        due(call, c.on(x), FINDING);
        same("all behind " + call, whole(x), before);
        was[0] = finding;
        was[finding]++;
        same("what was found behind " + call, found(x), was);
    }

    private static void write(ThreeThings x, int t, String s) {
        x.text(t, s.length());
        for (int i = 0; i < s.length(); i++) {
            if (s.charAt(i) != ' ') x.put(t, i, s.charAt(i));
        }
    }

    private static ThreeThings isle(String s) {
        ThreeThings x = new ThreeThings();
        write(x, 3, s);
        if (x.island(3) < 0) due("fault of '" + s + "'", x.fault(3), NONE);
        return x;
    }

    private static void rowOf(ThreeThings x, int r, int... v) {
        x.row(r, v.length);
        for (int i = 0; i < v.length; i++) {
            if (v[i] != 0) x.lay(r, i, v[i]);
        }
    }

    private static int valueAt(ThreeThings x, int r, int i) {
        int answer = x.at(r, i);
        return answer == 1 ? x.asked() : answer;
    }

    private static void rowIs(ThreeThings x, int r, int... v) {
        for (int i = 0; i < v.length; i++) due("place " + i + " of ROW " + r, valueAt(x, r, i), v[i]);
        due("the place behind ROW " + r, x.at(r, v.length), FINDING);
    }

    /** Where all THINGS are, and LIMIT. */
    private static void stands(ThreeThings x, int... v) {
        due("image()", x.image(5), v.length);
        rowIs(x, 5, v);
        x.tear(5);
    }

    private static int[] of(int n, int v) {
        int[] row = new int[n];
        Arrays.fill(row, v);
        return row;
    }

    /** 40 STEPS done: THING 0 from 0 to the BEACH and back. */
    private static ThreeThings doneForty() {
        ThreeThings x = isle("p2 t0 b1");
        for (int i = 0; i < 40; i++) due("step " + i, x.step(0, i % 2 == 0 ? 4 : 0), 1);
        return x;
    }

    // ---- 1 rows, texts, islands

    private static void newObject() {
        edge(1, "No ROWS, TEXTS, PEOPLE, THINGS, WORKS");
        ThreeThings x = new ThreeThings();
        due("asked()", x.asked(), 0);
        due("upper()", x.upper(), 0);
        due("lower()", x.lower(), 1);
        due("finding()", x.finding(), 0);
        for (int f = 1; f <= 5; f++) due("findings(" + f + ")", x.findings(f), 0);
        for (int i = 0; i < 8; i++) due("count(" + i + ")", x.count(i), 0);
        for (int k = 0; k < 3; k++) finds(x, "on(" + k + ")", NOTHING, kept(k));
        refused(x, "load(0)", BAD, y -> y.load(0));
        refused(x, "thing(0, 0)", BAD, y -> y.thing(0, 0));
        refused(x, "mark(0, 1)", BAD, y -> y.mark(0, 1));
        refused(x, "work(0, 0)", BAD, y -> y.work(0, 0));
        refused(x, "step(0, 4)", BAD, y -> y.step(0, 4));
        refused(x, "may(0, 4)", BAD, y -> y.may(0, 4));
        refused(x, "theft(0, 0)", BAD, y -> y.theft(0, 0));
        refused(x, "odds(0)", BAD, y -> y.odds(0));
        refused(x, "keep(0)", STATE, y -> y.keep(0));
        refused(x, "pair()", STATE, ThreeThings::pair);
        due("limit(3), what it was", x.limit(3), 3);

        edge(1, "missing (at first)");
        ThreeThings missing = new ThreeThings();
        for (int r = 0; r < 6; r++) {
            final int row = r;
            finds(missing, "at(" + r + ", 0)", NOTHING, y -> y.at(row, 0));
        }
        for (int t = 0; t < 4; t++) {
            final int text = t;
            finds(missing, "fault(" + t + ")", NOTHING, y -> y.fault(text));
        }

        edge(1, "one object is not another one");
        ThreeThings one = isle(ISLAND);
        one.row(0, 3);
        due("count(1) of another one", new ThreeThings().count(1), 0);
        due("count(6) of another one", new ThreeThings().count(6), 0);
    }

    private static Call kept(int k) {
        return y -> y.on(k);
    }

    private static void rowsFrom0To5() {
        edge(2, "ROWS 0 .. 5");
        ThreeThings x = isle("p1 t0 w000:1");
        for (int r = 0; r < 6; r++) due("row(" + r + ", 1)", x.row(r, 1), 1);
        for (int none : new int[] {-1, 6, MIN, MAX}) {
            refused(x, "row(" + none + ", 1)", BAD, y -> y.row(none, 1));
            refused(x, "lay(" + none + ", 0, 1)", BAD, y -> y.lay(none, 0, 1));
            refused(x, "at(" + none + ", 0)", BAD, y -> y.at(none, 0));
            refused(x, "tear(" + none + ")", BAD, y -> y.tear(none));
            refused(x, "copy(" + none + ", 0, 1, 0, 1)", BAD, y -> y.copy(none, 0, 1, 0, 1));
            refused(x, "copy(1, 0, " + none + ", 0, 1)", BAD, y -> y.copy(1, 0, none, 0, 1));
            refused(x, "mean(" + none + ")", BAD, y -> y.mean(none));
            refused(x, "does(" + none + ")", BAD, y -> y.does(none));
            refused(x, "day(" + none + ")", BAD, y -> y.day(none));
            refused(x, "fewest(" + none + ")", BAD, y -> y.fewest(none));
            refused(x, "way(" + none + ", 0)", BAD, y -> y.way(none, 0));
            refused(x, "way(0, " + none + ")", BAD, y -> y.way(0, none));
            refused(x, "image(" + none + ")", BAD, y -> y.image(none));
            refused(x, "gone(" + none + ")", BAD, y -> y.gone(none));
        }
    }

    private static void textsFrom0To3() {
        edge(8, "TEXTS 0 .. 3");
        ThreeThings x = new ThreeThings();
        for (int t = 0; t < 4; t++) due("text(" + t + ", 1)", x.text(t, 1), 1);
        for (int none : new int[] {-1, 4, MIN, MAX}) {
            refused(x, "text(" + none + ", 1)", BAD, y -> y.text(none, 1));
            refused(x, "put(" + none + ", 0, 1)", BAD, y -> y.put(none, 0, 1));
            refused(x, "fault(" + none + ")", BAD, y -> y.fault(none));
            refused(x, "island(" + none + ")", BAD, y -> y.island(none));
        }
    }

    private static void row() {
        edge(2, "A ROW is there with n ints 0: n (none)");
        ThreeThings x = new ThreeThings();
        due("row(0, 0)", x.row(0, 0), 0);
        due("count(6)", x.count(6), 1);
        rowIs(x, 0);

        edge(2, "A ROW is there with n ints 0: n (60)");
        due("row(5, 60)", x.row(5, 60), 60);
        rowIs(x, 5, new int[60]);

        edge(2, "A ROW is there with n ints 0 (anew)");
        x = new ThreeThings();
        rowOf(x, 2, of(60, 9));
        due("row(2, 3)", x.row(2, 3), 3);
        rowIs(x, 2, 0, 0, 0);
        due("row(2, 5)", x.row(2, 5), 5);
        rowIs(x, 2, 0, 0, 0, 0, 0);
        due("count(6)", x.count(6), 1);

        edge(2, "it is that ROW alone");
        x = new ThreeThings();
        for (int r = 0; r < 3; r++) rowOf(x, r, of(60, 7));
        x.row(1, 60);
        due("the last of the ROW ahead", valueAt(x, 0, 59), 7);
        due("the first of the ROW behind", valueAt(x, 2, 0), 7);

        edge(2, "BAD: also n above 60");
        rowOf(x, 4, 7, 8);
        refused(x, "row(4, 61)", BAD, y -> y.row(4, 61));
        refused(x, "row(4, MAX)", BAD, y -> y.row(4, MAX));
        refused(x, "row(3, 61) of a missing one", BAD, y -> y.row(3, 61));

        edge(2, "SIZE: below 0");
        finds(x, "row(4, -1)", SIZE, y -> y.row(4, -1));
        finds(x, "row(4, MIN)", SIZE, y -> y.row(4, MIN));
        finds(x, "row(3, -1) of a missing one", SIZE, y -> y.row(3, -1));

        edge(2, "BAD comes ahead of SIZE");
        refused(x, "row(6, -1)", BAD, y -> y.row(6, -1));
        refused(x, "row(-1, -1)", BAD, y -> y.row(-1, -1));
    }

    private static void lay() {
        edge(3, "Place i of a ROW is v: what it was (the first, the last)");
        ThreeThings x = new ThreeThings();
        for (int r = 0; r < 3; r++) x.row(r, 60);
        told("lay(1, 0, MAX)", x, x.lay(1, 0, MAX), 1, 0);
        told("lay(1, 0, MIN)", x, x.lay(1, 0, MIN), 1, MAX);
        told("lay(1, 0, -1)", x, x.lay(1, 0, -1), 1, MIN);
        told("lay(1, 59, 5)", x, x.lay(1, 59, 5), 1, 0);
        told("lay(1, 59, 6)", x, x.lay(1, 59, 6), 1, 5);
        due("the place behind the first", valueAt(x, 1, 1), 0);
        due("the place ahead of the last", valueAt(x, 1, 58), 0);
        due("the last of the ROW ahead", valueAt(x, 0, 59), 0);
        due("the first of the ROW behind", valueAt(x, 2, 0), 0);

        edge(3, "BEYOND");
        for (int none : new int[] {-1, 60, MIN, MAX}) {
            finds(x, "lay(1, " + none + ", 3)", BEYOND, y -> y.lay(1, none, 3));
        }
        x.row(3, 0);
        finds(x, "lay(3, 0, 3) of an empty one", BEYOND, y -> y.lay(3, 0, 3));
        rowOf(x, 3, 4, 5);
        x.row(3, 1);
        finds(x, "lay(3, 1, 3) where it was longer", BEYOND, y -> y.lay(3, 1, 3));

        edge(3, "NOTHING");
        finds(x, "lay(4, 0, 3)", NOTHING, y -> y.lay(4, 0, 3));
        x.tear(3);
        finds(x, "lay(3, 0, 3) of a torn one", NOTHING, y -> y.lay(3, 0, 3));

        edge(3, "BAD, NOTHING, BEYOND: the first that fits");
        refused(x, "lay(6, -1, 3)", BAD, y -> y.lay(6, -1, 3));
        refused(x, "lay(-1, 60, 3)", BAD, y -> y.lay(-1, 60, 3));
        finds(x, "lay(4, -1, 3)", NOTHING, y -> y.lay(4, -1, 3));
    }

    private static void at() {
        edge(4, "Place i of a ROW (the first, the last)");
        ThreeThings x = new ThreeThings();
        int[] row = of(60, 2);
        row[0] = MIN;
        row[59] = MAX;
        rowOf(x, 3, row);
        told("at(3, 0)", x, x.at(3, 0), 1, MIN);
        told("at(3, 59)", x, x.at(3, 59), 1, MAX);
        rowOf(x, 0, -9);
        told("at(0, 0), what looks like NONE", x, x.at(0, 0), 1, NONE);

        edge(4, "BEYOND");
        for (int none : new int[] {-1, 60, MIN, MAX}) {
            finds(x, "at(3, " + none + ")", BEYOND, y -> y.at(3, none));
        }
        finds(x, "at(0, 1)", BEYOND, y -> y.at(0, 1));
        x.row(1, 0);
        finds(x, "at(1, 0) of an empty one", BEYOND, y -> y.at(1, 0));

        edge(4, "NOTHING");
        finds(x, "at(2, 0)", NOTHING, y -> y.at(2, 0));
        x.tear(0);
        finds(x, "at(0, 0) of a torn one", NOTHING, y -> y.at(0, 0));

        edge(4, "BAD, NOTHING, BEYOND: the first that fits");
        refused(x, "at(6, -1)", BAD, y -> y.at(6, -1));
        refused(x, "at(-1, 60)", BAD, y -> y.at(-1, 60));
        finds(x, "at(2, 60)", NOTHING, y -> y.at(2, 60));
    }

    private static void tear() {
        edge(5, "A ROW is missing: 1 (an empty, a full one)");
        ThreeThings x = new ThreeThings();
        x.row(0, 0);
        x.row(1, 60);
        x.row(2, 1);
        due("tear(0)", x.tear(0), 1);
        due("tear(1)", x.tear(1), 1);
        due("count(6)", x.count(6), 1);
        rowIs(x, 2, 0);

        edge(5, "NOTHING");
        finds(x, "tear(0) again", NOTHING, y -> y.tear(0));
        finds(x, "tear(5), never there", NOTHING, y -> y.tear(5));

        edge(5, "a torn ROW can be there anew");
        rowOf(x, 3, 4, 5);
        x.tear(3);
        x.row(3, 2);
        rowIs(x, 3, 0, 0);

        edge(5, "BAD comes ahead of NOTHING");
        refused(x, "tear(6)", BAD, y -> y.tear(6));
        refused(x, "tear(-1)", BAD, y -> y.tear(-1));
    }

    private static void copy() {
        edge(6, "n places of a ROW come to those of another one (these alone)");
        ThreeThings x = new ThreeThings();
        rowOf(x, 0, 1, 2, 3, 4);
        rowOf(x, 1, 5, 6, 7, 8);
        due("copy(0, 1, 1, 2, 1)", x.copy(0, 1, 1, 2, 1), 1);
        rowIs(x, 1, 5, 6, 2, 8);
        rowIs(x, 0, 1, 2, 3, 4);

        edge(6, "(perhaps itself), as if taken ahead");
        due("copy(0, 0, 0, 1, 3)", x.copy(0, 0, 0, 1, 3), 1);
        rowIs(x, 0, 1, 1, 2, 3);
        due("copy(0, 1, 0, 0, 3)", x.copy(0, 1, 0, 0, 3), 1);
        rowIs(x, 0, 1, 2, 3, 3);
        due("copy(0, 0, 0, 0, 4)", x.copy(0, 0, 0, 0, 4), 1);
        rowIs(x, 0, 1, 2, 3, 3);

        edge(6, "BEYOND: not so many there (of the one)");
        rowOf(x, 2, of(9, 0));
        due("copy(0, 2, 2, 0, 2), up to its end", x.copy(0, 2, 2, 0, 2), 1);
        finds(x, "copy(0, 2, 2, 0, 3)", BEYOND, y -> y.copy(0, 2, 2, 0, 3));
        finds(x, "copy(0, 4, 2, 0, 1)", BEYOND, y -> y.copy(0, 4, 2, 0, 1));
        finds(x, "copy(0, -1, 2, 0, 1)", BEYOND, y -> y.copy(0, -1, 2, 0, 1));
        finds(x, "copy(0, 0, 2, 0, 5)", BEYOND, y -> y.copy(0, 0, 2, 0, 5));

        edge(6, "BEYOND: not so many there (of the other one)");
        due("copy(2, 0, 0, 2, 2), up to its end", x.copy(2, 0, 0, 2, 2), 1);
        finds(x, "copy(2, 0, 0, 2, 3)", BEYOND, y -> y.copy(2, 0, 0, 2, 3));
        finds(x, "copy(2, 0, 0, 4, 1)", BEYOND, y -> y.copy(2, 0, 0, 4, 1));
        finds(x, "copy(2, 0, 0, -1, 1)", BEYOND, y -> y.copy(2, 0, 0, -1, 1));
        finds(x, "copy(2, 0, 0, 0, 5)", BEYOND, y -> y.copy(2, 0, 0, 0, 5));
        finds(x, "copy(0, 0, 0, 1, 4) onto itself", BEYOND, y -> y.copy(0, 0, 0, 1, 4));

        edge(6, "what is above all ints wraps around nowhere");
        finds(x, "copy(0, MAX, 2, 0, 1)", BEYOND, y -> y.copy(0, MAX, 2, 0, 1));
        finds(x, "copy(2, 0, 0, MAX, 1)", BEYOND, y -> y.copy(2, 0, 0, MAX, 1));
        finds(x, "copy(0, 1, 2, 1, MAX)", BEYOND, y -> y.copy(0, 1, 2, 1, MAX));
        finds(x, "copy(0, MAX, 2, MAX, MAX)", BEYOND, y -> y.copy(0, MAX, 2, MAX, MAX));
        finds(x, "copy(0, MIN, 2, 0, 0)", BEYOND, y -> y.copy(0, MIN, 2, 0, 0));
        finds(x, "copy(0, MIN, 2, 0, MAX)", BEYOND, y -> y.copy(0, MIN, 2, 0, MAX));
        finds(x, "copy(0, 0, 2, 0, MIN)", SIZE, y -> y.copy(0, 0, 2, 0, MIN));
        copyOfNone();
        copyOfAll();
    }

    private static void copyOfNone() {
        edge(6, "also with n 0, if i, j is below 0, or above its size");
        ThreeThings x = new ThreeThings();
        rowOf(x, 0, 1, 2);
        x.row(1, 0);
        due("copy(0, 2, 1, 0, 0), at its end", x.copy(0, 2, 1, 0, 0), 1);
        due("copy(1, 0, 0, 2, 0), at its end", x.copy(1, 0, 0, 2, 0), 1);
        due("copy(1, 0, 1, 0, 0), both empty", x.copy(1, 0, 1, 0, 0), 1);
        rowIs(x, 0, 1, 2);
        finds(x, "copy(0, 3, 1, 0, 0)", BEYOND, y -> y.copy(0, 3, 1, 0, 0));
        finds(x, "copy(0, -1, 1, 0, 0)", BEYOND, y -> y.copy(0, -1, 1, 0, 0));
        finds(x, "copy(1, 0, 0, 3, 0)", BEYOND, y -> y.copy(1, 0, 0, 3, 0));
        finds(x, "copy(1, 0, 0, -1, 0)", BEYOND, y -> y.copy(1, 0, 0, -1, 0));
        finds(x, "copy(1, 1, 0, 0, 0)", BEYOND, y -> y.copy(1, 1, 0, 0, 0));

        edge(6, "SIZE: n below 0");
        finds(x, "copy(0, 0, 1, 0, -1)", SIZE, y -> y.copy(0, 0, 1, 0, -1));

        edge(6, "NOTHING: either");
        finds(x, "copy(2, 0, 1, 0, 0)", NOTHING, y -> y.copy(2, 0, 1, 0, 0));
        finds(x, "copy(1, 0, 2, 0, 0)", NOTHING, y -> y.copy(1, 0, 2, 0, 0));
        finds(x, "copy(2, 0, 2, 0, 0)", NOTHING, y -> y.copy(2, 0, 2, 0, 0));

        edge(6, "(In this order.)");
        refused(x, "copy(6, 9, 2, 9, -1)", BAD, y -> y.copy(6, 9, 2, 9, -1));
        refused(x, "copy(2, 9, 6, 9, -1)", BAD, y -> y.copy(2, 9, 6, 9, -1));
        finds(x, "copy(2, 9, 2, 9, -1)", SIZE, y -> y.copy(2, 9, 2, 9, -1));
        finds(x, "copy(0, 9, 1, 9, -1)", SIZE, y -> y.copy(0, 9, 1, 9, -1));
        finds(x, "copy(2, 9, 1, 9, 1)", NOTHING, y -> y.copy(2, 9, 1, 9, 1));
        finds(x, "copy(0, 9, 2, 9, 1)", NOTHING, y -> y.copy(0, 9, 2, 9, 1));
    }

    private static void copyOfAll() {
        edge(6, "n places (60)");
        ThreeThings x = new ThreeThings();
        rowOf(x, 4, of(60, 3));
        x.row(5, 60);
        due("copy(4, 0, 5, 0, 60)", x.copy(4, 0, 5, 0, 60), 1);
        due("its first", valueAt(x, 5, 0), 3);
        due("its last", valueAt(x, 5, 59), 3);
        finds(x, "copy(4, 0, 5, 0, 61)", BEYOND, y -> y.copy(4, 0, 5, 0, 61));
        finds(x, "copy(4, 1, 5, 0, 60)", BEYOND, y -> y.copy(4, 1, 5, 0, 60));
        finds(x, "copy(4, 0, 5, 1, 60)", BEYOND, y -> y.copy(4, 0, 5, 1, 60));
    }

    private static void mean() {
        edge(7, "The mean of a ROW's ints (one, 60)");
        ThreeThings x = new ThreeThings();
        rowOf(x, 0, -5);
        told("mean of -5", x, x.mean(0), 1, -5);
        rowOf(x, 0, of(60, 4));
        told("mean of sixty 4", x, x.mean(0), 1, 4);

        edge(7, "cut");
        int[][] rows = {{0, 1}, {0, -1}, {1, 2}, {-1, -2}, {2, 2, 1}, {-2, -2, -1}, {-1, 1}, {3, -2}, {-3, 2}};
        int[] want = {0, 0, 1, -1, 1, -1, 0, 0, 0};
        for (int i = 0; i < rows.length; i++) {
            rowOf(x, 1, rows[i]);
            told("mean of " + Arrays.toString(rows[i]), x, x.mean(1), 1, want[i]);
        }

        edge(7, "the sum wraps around nowhere");
        rowOf(x, 2, MAX, MAX, MAX);
        told("mean of the greatest", x, x.mean(2), 1, MAX);
        rowOf(x, 2, MIN, MIN, MIN);
        told("mean of the least", x, x.mean(2), 1, MIN);
        rowOf(x, 2, MAX, MIN);
        told("mean of both", x, x.mean(2), 1, 0);
        rowOf(x, 2, of(60, MAX));
        told("mean of sixty of the greatest", x, x.mean(2), 1, MAX);
        rowOf(x, 2, MIN, -1);
        told("mean of the least and -1", x, x.mean(2), 1, -1073741824);

        edge(7, "NOUGHT (an empty one)");
        x.row(3, 0);
        finds(x, "mean(3)", NOUGHT, y -> y.mean(3));

        edge(7, "NOTHING");
        finds(x, "mean(4)", NOTHING, y -> y.mean(4));
        x.tear(3);
        finds(x, "mean(3), torn", NOTHING, y -> y.mean(3));

        edge(7, "BAD comes ahead of NOTHING");
        refused(x, "mean(6)", BAD, y -> y.mean(6));
    }

    private static void text() {
        edge(8, "A TEXT is there with n blanks: n (none, 100)");
        ThreeThings x = new ThreeThings();
        due("text(0, 0)", x.text(0, 0), 0);
        due("text(3, 100)", x.text(3, 100), 100);
        due("count(7)", x.count(7), 2);
        for (int i = 0; i < 100; i++) due("put(3, " + i + ", 7)", x.put(3, i, 7), 1032);
        finds(x, "put(3, 100, 7)", BEYOND, y -> y.put(3, 100, 7));

        edge(8, "with n blanks (anew)");
        due("text(3, 3)", x.text(3, 3), 3);
        for (int i = 0; i < 3; i++) due("put(3, " + i + ", 8)", x.put(3, i, 8), 1032);
        due("text(3, 100)", x.text(3, 100), 100);
        due("put(3, 2, 8)", x.put(3, 2, 8), 1032);
        due("put(3, 99, 8)", x.put(3, 99, 8), 1032);
        due("count(7)", x.count(7), 2);

        edge(8, "it is that TEXT alone");
        for (int t = 0; t < 3; t++) {
            x.text(t, 100);
            x.put(t, 0, 1);
            x.put(t, 99, 2);
        }
        x.text(1, 100);
        due("the last of the TEXT ahead", x.put(0, 99, 3), 1002);
        due("the first of the TEXT behind", x.put(2, 0, 3), 1001);

        edge(8, "BAD: also n above 100");
        refused(x, "text(1, 101)", BAD, y -> y.text(1, 101));
        refused(x, "text(1, MAX)", BAD, y -> y.text(1, MAX));

        edge(8, "SIZE: below 0");
        finds(x, "text(1, -1)", SIZE, y -> y.text(1, -1));
        finds(x, "text(1, MIN)", SIZE, y -> y.text(1, MIN));

        edge(8, "BAD comes ahead of SIZE");
        refused(x, "text(4, -1)", BAD, y -> y.text(4, -1));
        refused(x, "text(-1, -1)", BAD, y -> y.text(-1, -1));
    }

    private static void put() {
        edge(9, "cut to a byte (-128 .. 127)");
        ThreeThings x = new ThreeThings();
        x.text(0, 2);
        int[][] cuts = {{127, 127}, {128, -128}, {129, -127}, {255, -1}, {256, 0}, {257, 1}, {-1, -1}, {-128, -128},
            {-129, 127}, {-256, 0}, {384, -128}, {MAX, -1}, {MIN, 0}, {0, 0}};
        int was = 32;
        for (int[] cut : cuts) {
            due("put(0, 0, " + cut[0] + ")", x.put(0, 0, cut[0]), 1000 + was);
            was = cut[1];
        }
        due("put(0, 0, 1)", x.put(0, 0, 1), 1000 + was);
        due("the byte beside", x.put(0, 1, 0), 1032);

        edge(9, "BEYOND");
        for (int none : new int[] {-1, 2, MIN, MAX}) {
            finds(x, "put(0, " + none + ", 3)", BEYOND, y -> y.put(0, none, 3));
        }
        x.text(1, 0);
        finds(x, "put(1, 0, 3) of an empty one", BEYOND, y -> y.put(1, 0, 3));

        edge(9, "NOTHING");
        finds(x, "put(2, 0, 3)", NOTHING, y -> y.put(2, 0, 3));

        edge(9, "BAD, NOTHING, BEYOND: the first that fits");
        refused(x, "put(4, -1, 3)", BAD, y -> y.put(4, -1, 3));
        finds(x, "put(2, -1, 3)", NOTHING, y -> y.put(2, -1, 3));
    }

    /** A TEXT's FAULT, or NONE; an ISLAND comes of it, or all stays. */
    private static void faultOf(String s, int want) {
        ThreeThings x = isle("p1 t0");
        write(x, 0, s);
        due("fault of '" + s + "'", x.fault(0), want);
        if (want == NONE) due("island of '" + s + "'", x.island(0) >= 0 ? 0 : -1, 0);
        else refused(x, "island of '" + s + "'", STATE, y -> y.island(0));
    }

    private static void faults() {
        edge(10, "blanks ahead, between, behind as many as wanted");
        for (String s : new String[] {"p2t0b1w000:1", "p2 t0 b1 w000:1", " p2t0b1w000:1 ", "   p2   t0b1   w000:1   "}) {
            faultOf(s, NONE);
        }
        faultOf(" ".repeat(98) + "p1", NONE);
        faultOf("p1" + " ".repeat(98), NONE);
        faultOf("p1" + " ".repeat(96) + "t0", NONE);
        faultOf("p1" + " ".repeat(97) + "t", 100);

        edge(10, "blanks (32): no other sign is one");
        for (char sign : new char[] {0, 9, 10, 13, 31, 33, 95, 127}) {
            faultOf(sign + "p1", 0);
            faultOf("p1" + sign, 2);
            faultOf("p1" + sign + "t0", 2);
        }

        edge(10, "none within items");
        faultOf("p 1", 1);
        faultOf("p1 t 0", 4);
        faultOf("p1 t z", 4);
        faultOf("p1 t0 w 000:1", 7);
        faultOf("p1 t0 w0 00:1", 8);
        faultOf("p1 t0 w00 0:1", 9);
        faultOf("p1 t0 w000 :1", 10);
        faultOf("p1 t0 w000: 1", 11);
        faultOf("p1 t0tz w000 1:1", 12);

        edge(10, "The first item is p");
        for (String s : new String[] {"t0", "w000:1", "1", "P1", "o1", "q1", ":", "z"}) faultOf(s, 0);
        faultOf("  t0", 2);
        faultOf("p1 p1", 3);
        faultOf("p1 t0 p1", 6);

        edge(10, "how many PEOPLE (1 .. 4, one figure)");
        faultOf("p0", 1);
        faultOf("p1", NONE);
        faultOf("p4", NONE);
        faultOf("p5", 1);
        faultOf("p/", 1);
        faultOf("p:", 1);
        faultOf("p9", 1);
        faultOf("p11", 2);
        faultOf("p01", 1);

        edge(10, "the TEXT's size, if there is no p");
        faultOf("", 0);
        faultOf(" ", 1);
        faultOf(" ".repeat(100), 100);
        endsTooEarly();
        faultsOfThings();
        faultsOfWorks();
        faultsOfSigns();
    }

    private static void endsTooEarly() {
        edge(10, "the TEXT's size, if its end comes too early");
        String s = " p2 t0b1 w0001:9 w510:1 ";
        for (int n = 0; n <= s.length(); n++) {
            boolean whole = n == 3 || n == 4 || n == 6 || n == 8 || n == 9 || n == 16 || n == 17 || n >= 23;
            faultOf(s.substring(0, n), whole ? NONE : n);
        }
    }

    private static void faultsOfThings() {
        edge(10, "THINGS (5 at most): a sixth THING");
        faultOf("p1tztztztztz", NONE);
        faultOf("p1tztztztztztz", 12);
        faultOf("p1 tz tz tz tz tz  h0", 19);
        faultOf("p1tztztztztzt", 12);

        edge(10, "a figure 0 .. 3 (one of PEOPLE has it)");
        faultOf("p1t0", NONE);
        faultOf("p1t1", 3);
        faultOf("p3t2", NONE);
        faultOf("p3t3", 3);
        faultOf("p4t3", NONE);
        faultOf("p4t4", 3);
        faultOf("p4t/", 3);
        faultOf("p4t-", 3);

        edge(10, "z (it lies on the BEACH)");
        for (char letter : new char[] {'t', 'b', 'h', 's'}) faultOf("p1 " + letter + "z", NONE);
        faultOf("p1ty", 3);
        faultOf("p1t{", 3);
        faultOf("p1tZ", 3);

        edge(10, "LIVING ones not on the BEACH: z of a LIVING one");
        faultOf("p1 lz", 4);
        faultOf("p1 ez", 4);
        faultOf("p1 l0 e0", NONE);

        edge(10, "letters of THINGS");
        for (char letter : new char[] {'t', 'b', 'l', 'h', 's', 'e'}) {
            faultOf("p1 " + letter + "0", NONE);
            faultOf("p1 " + (char) (letter - 32) + "0", 3);
        }
        for (char letter : new char[] {'a', 'c', 'd', 'f', 'g', 'i', 'k', 'm', 'r', 'u', 'v', 'x', 'z', '0', ':'}) {
            faultOf("p1 " + letter + "0", 3);
        }

        edge(10, "two of b, s together at most: a third BAG");
        for (String two : new String[] {"bzbz", "szsz", "bzsz", "szbz"}) {
            faultOf("p1" + two, NONE);
            faultOf("p1" + two + "tz", NONE);
            faultOf("p1" + two + "bz", 6);
            faultOf("p1" + two + "sz", 6);
            faultOf("p1" + two + "tz s0", 9);
        }

        edge(10, "nobody with more than LIMIT 3: a figure of one for whom LIMIT 3 would be passed");
        faultOf("p2t0t0t0", NONE);
        faultOf("p2t0t0t0t0", 9);
        faultOf("p2t0t0t0t1", NONE);
        faultOf("p2t0t0t0tz", NONE);
        faultOf("p2h0t0", NONE);
        faultOf("p2h0h0", 5);
        faultOf("p2h0h1", NONE);
        faultOf("p2e0l0", NONE);
        faultOf("p2e0e0", 5);
        faultOf("p2t0t0h0", 7);
        faultOf("p2t0t0e0", 7);
        faultOf("p2b0s0t0", NONE);
        faultOf("p2b0s0t0t0", 9);
        faultOf("p2hzhzhzhzhz", NONE);
        faultOf("p4t3t3t3l3", 9);
    }

    private static void faultsOfWorks() {
        edge(10, "WORKS (8 at most): a ninth WORK");
        String eight = "w000:1".repeat(8);
        faultOf("p1t0" + eight, NONE);
        faultOf("p1t0" + eight + "w000:1", 52);
        faultOf("p1t0" + eight + "  w", 54);

        edge(10, "an HOUR (0 .. 5, one figure)");
        faultOf("p1t0w000:1", NONE);
        faultOf("p1t0w500:1", NONE);
        faultOf("p1t0w600:1", 5);
        faultOf("p1t0w/00:1", 5);
        faultOf("p1t0w900:1", 5);

        edge(10, "a figure of PEOPLE");
        faultOf("p2t0w010:1", NONE);
        faultOf("p2t0w020:1", 6);
        faultOf("p4t0w030:1", NONE);
        faultOf("p4t0w040:1", 6);
        faultOf("p4t0w0/0:1", 6);
        faultOf("p4t0w0z0:1", 6);

        edge(10, "one figure or more of THINGS told ahead");
        faultOf("p1t0w00:1", 7);
        faultOf("p1t0w001:1", 7);
        faultOf("p1t0tzw001:1", NONE);
        faultOf("p1t0tzw002:1", 9);
        faultOf("p1t0w00/:1", 7);
        faultOf("p1t0tztztztzw0001234:1", NONE);
        faultOf("p1t0tztztztzw0043210:1", NONE);
        faultOf("p1t0tztztztzw005:1", 15);
        faultOf("p1t0tztztztzw00012345:1", 20);
        faultOf("p1w000:1", 5);

        edge(10, "(each once): a THING twice");
        faultOf("p1t0w0000:1", 8);
        faultOf("p1t0tzw00010:1", 11);
        faultOf("p1t0tzw00011:1", 11);
        faultOf("p1t0tztztztzw00012344:1", 20);

        edge(10, ": (58)");
        faultOf("p1t0w0009:1", 8);
        faultOf("p1t0w000;1", 8);
        faultOf("p1t0w0001", 8);
        faultOf("p1t0w000::1", 9);

        edge(10, "WORTH (1 .. 9, one figure)");
        faultOf("p1t0w000:0", 9);
        faultOf("p1t0w000:1", NONE);
        faultOf("p1t0w000:9", NONE);
        faultOf("p1t0w000::", 9);
        faultOf("p1t0w000:10", 10);

        edge(10, "THINGS come ahead of all WORKS: a THING behind a WORK");
        faultOf("p1t0w000:1t0", 10);
        faultOf("p1t0w000:1 bz", 11);
        faultOf("p1t0w000:1 w000:1 h0", 18);
    }

    private static void faultsOfSigns() {
        edge(10, "bytes below 0 are no signs");
        ThreeThings x = new ThreeThings();
        write(x, 0, "p1 t0");
        x.put(0, 3, 't' - 256);
        due("a byte cut to t", x.fault(0), NONE);
        x.put(0, 3, -'t');
        due("a byte below 0 for a letter", x.fault(0), 3);
        x.put(0, 2, -96);
        due("a byte below 0 for a blank", x.fault(0), 2);
        x.put(0, 1, -128);
        due("a byte below 0 for a figure", x.fault(0), 1);
        x.put(0, 0, -1);
        due("a byte below 0 for p", x.fault(0), 0);

        edge(10, "NONE: there is none (a TEXT of 100 bytes)");
        String full = "p4 tz tz tz tz tz" + " w0001234:9".repeat(7) + "w000:1";
        due("the size", full.length(), 100);
        faultOf(full, NONE);
        faultOf(full.substring(0, 99) + "0", 99);
        faultOf(full.substring(0, 99), 99);

        edge(10, "fault() reads and changes nothing");
        ThreeThings y = isle(ISLAND);
        write(y, 0, "p1 t0 q");
        refused(y, "fault(0)", 6, z -> z.fault(0));
        refused(y, "fault(3)", NONE, z -> z.fault(3));

        edge(10, "NOTHING; BAD ahead of it");
        finds(y, "fault(1)", NOTHING, z -> z.fault(1));
        refused(y, "fault(4)", BAD, z -> z.fault(4));
        refused(y, "fault(-1)", BAD, z -> z.fault(-1));
    }

    private static void island() {
        edge(11, "how many THINGS (none, 5)");
        ThreeThings x = new ThreeThings();
        write(x, 0, "p1");
        due("island(0)", x.island(0), 0);
        due("count(0)", x.count(0), 1);
        write(x, 0, "p4 t0 t1 t2 t3 tz");
        due("island(0)", x.island(0), 5);
        due("count(0)", x.count(0), 4);

        edge(11, "anew; LIMIT 3; nothing done, SEEN, kept");
        x = isle(ISLAND);
        x.limit(6);
        x.step(2, 0);
        for (int k = 0; k < 3; k++) x.keep(k);
        for (int i = 0; i < 8; i++) x.saw(0, 1);
        due("island(3) of the same TEXT", x.island(3), 5);
        stands(x, 0, 0, 1, 2, 4, 3);
        due("count(3)", x.count(3), 0);
        due("count(5)", x.count(5), 0);
        for (int k = 0; k < 3; k++) finds(x, "on(" + k + ")", NOTHING, kept(k));
        refused(x, "undo(1)", BAD, y -> y.undo(1));

        edge(11, "anew: ROWS, TEXTS and what was told stay");
        x = isle(ISLAND);
        x.row(2, 2);
        x.odds(2);
        x.at(9, 0);
        x.at(0, 0);
        x.thing(4, 1);
        x.island(3);
        due("count(6)", x.count(6), 1);
        due("count(7)", x.count(7), 1);
        due("asked()", x.asked(), 4);
        due("upper()", x.upper(), 1);
        due("lower()", x.lower(), 4);
        due("finding()", x.finding(), NOTHING);
        due("findings(1)", x.findings(1), 1);

        edge(11, "anew: an ISLAND with less leaves nothing of one with more");
        write(x, 0, "p1 b0");
        due("island(0)", x.island(0), 1);
        int[] want = {1, 1, 0, 0, 1, 0};
        for (int i = 0; i < 6; i++) due("count(" + i + ")", x.count(i), want[i]);
        refused(x, "thing(1, 0)", BAD, y -> y.thing(1, 0));
        refused(x, "work(0, 0)", BAD, y -> y.work(0, 0));
        refused(x, "load(1)", BAD, y -> y.load(1));
        refused(x, "step(0, 6)", BAD, y -> y.step(0, 6));
        due("most(2)", x.most(2), 0);
        due("can()", x.can(), 0);

        edge(11, "the TEXT may change behind: the ISLAND stays");
        x.put(0, 1, '4');
        x.text(0, 0);
        due("count(0)", x.count(0), 1);

        edge(11, "STATE: a FAULT (all stays)");
        x = isle(ISLAND);
        x.limit(4);
        x.step(0, 5);
        x.keep(1);
        x.saw(1, 0);
        for (String s : new String[] {"", "   ", "p2 t0 tz q", "p3 t0t0t0t0", "p1 t0 w000:"}) {
            write(x, 0, s);
            refused(x, "island of '" + s + "'", STATE, y -> y.island(0));
        }
        due("undo(0) still", x.undo(0), 1);

        edge(11, "STATE behind NOTHING, BAD ahead");
        finds(x, "island(1)", NOTHING, y -> y.island(1));
        refused(x, "island(4)", BAD, y -> y.island(4));
        refused(x, "island(-1)", BAD, y -> y.island(-1));
    }

    private static void thing() {
        edge(12, "where it is (0 .. 6)");
        ThreeThings x = isle("p4 t0 t1 t2 t3 tz");
        for (int t = 0; t < 5; t++) told("thing(" + t + ", 1)", x, x.thing(t, 1), 1, t);
        x = isle("p1 b0 s0 t0 tz");
        x.step(2, 5);
        x.step(3, 0);
        x.step(3, 6);
        told("thing(2, 1)", x, x.thing(2, 1), 1, 5);
        told("thing(3, 1)", x, x.thing(3, 1), 1, 6);

        edge(12, "5 in the first, 6 in the second of these, by numbers");
        x = isle("p1 s0 t0 b0");
        x.step(1, 5);
        told("in the SACK, told first", x, x.thing(1, 1), 1, 5);
        due("how many in the SACK", x.mark(0, 1), 1);
        x.step(1, 0);
        x.step(1, 6);
        told("in the BAG, told second", x, x.thing(1, 1), 1, 6);
        due("how many in the BAG", x.mark(2, 1), 1);
        due("how many in the SACK", x.mark(0, 1), 0);

        edge(12, "with whom it is in the end (4: the BEACH)");
        x = isle("p2 b1 tz t1");
        told("thing(1, 3)", x, x.thing(1, 3), 1, 4);
        x.step(2, 5);
        told("in a BAG with 1", x, x.thing(2, 3), 1, 1);
        x.step(0, 4);
        told("in a BAG on the BEACH", x, x.thing(2, 3), 1, 4);
        told("it is in the BAG", x, x.thing(2, 1), 1, 5);

        edge(12, "its KIND (0 .. 5), what it counts (1, 2)");
        x = isle("p4 t0 b0 l1 h1 s2");
        int[][] kinds = {{0, 1}, {1, 1}, {2, 1}, {3, 2}, {4, 1}};
        for (int t = 0; t < 5; t++) {
            told("thing(" + t + ", 0)", x, x.thing(t, 0), 1, kinds[t][0]);
            told("thing(" + t + ", 2)", x, x.thing(t, 2), 1, kinds[t][1]);
        }
        x = isle("p1 e0");
        told("a BEAST", x, x.thing(0, 0), 1, 5);
        told("what it counts", x, x.thing(0, 2), 1, 2);

        edge(12, "BAD: no THING, nothing to tell");
        ThreeThings y = isle("p1 t0 tz");
        for (int none : new int[] {-1, 2, MIN, MAX}) refused(y, "thing(" + none + ", 0)", BAD, z -> z.thing(none, 0));
        for (int none : new int[] {-1, 4, MIN, MAX}) refused(y, "thing(0, " + none + ")", BAD, z -> z.thing(0, none));
    }

    private static void mark() {
        edge(13, "a BAG (SACK, too) how many THINGS are in it; a SACK how many more it can hold");
        ThreeThings x = isle("p1 b0 s0 t0 tz tz");
        due("a BAG of none", x.mark(0, 1), 0);
        due("a SACK of none", x.mark(1, 1), 0);
        due("a SACK can hold two", x.mark(1, 4), 2);
        x.step(0, 4);
        x.step(1, 4);
        x.step(3, 5);
        x.step(4, 6);
        due("a BAG of one", x.mark(0, 1), 1);
        due("a SACK of one", x.mark(1, 1), 1);
        due("a SACK can hold one", x.mark(1, 4), 1);
        x.step(2, 4);
        x.step(2, 6);
        due("a SACK of two", x.mark(1, 1), 2);
        due("a SACK can hold no more", x.mark(1, 4), 0);
        due("the BAG still", x.mark(0, 1), 1);

        edge(13, "a HEAVY one in a SACK is one THING there");
        x = isle("p1 s0 h0 hz");
        x.step(1, 5);
        due("it can hold one more", x.mark(0, 4), 1);
        x.step(2, 0);
        due("the second", x.step(2, 5), 1);
        due("it can hold no more", x.mark(0, 4), 0);

        edge(13, "a LIVING one (BEAST, too) the LOAD of who has it");
        x = isle("p2 l0 e1 t1 b0 t0");
        due("with 0", x.mark(0, 2), 3);
        due("a BEAST, with 1", x.mark(1, 2), 3);
        x.step(4, 5);
        due("what is in BAGS aside", x.mark(0, 2), 2);
        x = isle("p1 l0");
        due("alone", x.mark(0, 2), 1);

        edge(13, "a HEAVY one in how many WORKS it is wanted (none, 8)");
        x = isle("p1 h0 hz" + " w000:1".repeat(8));
        due("in eight", x.mark(0, 3), 8);
        due("in none", x.mark(1, 3), 0);
        x = isle("p1 t0 h0 tz w000:1 w5021:1 w302:1");
        due("in one of three", x.mark(1, 3), 1);
        write(x, 3, "p1 t0 h0 w000:1");
        x.island(3);
        due("in none of an ISLAND with less", x.mark(1, 3), 0);

        edge(13, "a BEAST how many others who has it has (in BAGS, too)");
        x = isle("p2 e0 b0 tz t1");
        due("one other", x.mark(0, 5), 1);
        x.step(1, 4);
        due("none other", x.mark(0, 5), 0);
        x.step(2, 5);
        x.step(1, 0);
        due("two others, one in a BAG", x.mark(0, 5), 2);
        markRefused();
    }

    private static void markRefused() {
        edge(13, "UNLIKE: a THING that is not of that KIND");
        // Which KINDS each of t, b, l, h, s, e is.
        int[] is = {0, 1 << 1, 1 << 2, 1 << 3, 1 << 1 | 1 << 4, 1 << 2 | 1 << 5};
        String letters = "tblhse";
        for (int k = 0; k < 6; k++) {
            ThreeThings x = isle("p1 " + letters.charAt(k) + "0");
            for (int kind = 1; kind <= 5; kind++) {
                final int of = kind;
                String call = "mark(0, " + kind + ") of " + letters.charAt(k);
                if ((is[k] >> kind & 1) == 0) finds(x, call, UNLIKE, y -> y.mark(0, of));
                else due(call, x.mark(0, kind) >= 0 ? 1 : 0, 1);
            }
        }

        edge(13, "BAD: also KIND 0; BAD ahead of UNLIKE");
        ThreeThings x = isle("p1 t0 b0");
        for (int none : new int[] {0, -1, 6, MIN, MAX}) refused(x, "mark(0, " + none + ")", BAD, y -> y.mark(0, none));
        for (int none : new int[] {-1, 2, MIN, MAX}) refused(x, "mark(" + none + ", 1)", BAD, y -> y.mark(none, 1));
    }

    private static void work() {
        edge(14, "its HOUR (0, 5), who does it (0, 3), its THINGS (one, all), WORTH (1, 9)");
        ThreeThings x = isle("p4 tz tz tz tz tz w000:1 w5340213:9");
        int[][] want = {{0, 0, 1, 1}, {5, 3, 31, 9}};
        for (int w = 0; w < 2; w++) {
            for (int what = 0; what < 4; what++) {
                told("work(" + w + ", " + what + ")", x, x.work(w, what), 1, want[w][what]);
            }
        }

        edge(14, "a WORK of 8");
        ThreeThings y = isle("p1 t0" + " w000:1".repeat(7) + " w100:2");
        told("work(7, 3)", y, y.work(7, 3), 1, 2);
        refused(y, "work(8, 3)", BAD, z -> z.work(8, 3));

        edge(14, "BAD");
        for (int none : new int[] {-1, 2, MIN, MAX}) refused(x, "work(" + none + ", 0)", BAD, z -> z.work(none, 0));
        for (int none : new int[] {-1, 4, MIN, MAX}) refused(x, "work(0, " + none + ")", BAD, z -> z.work(0, none));
    }

    private static void load() {
        edge(15, "The LOAD of one (none, as much as LIMIT)");
        ThreeThings x = isle("p4 h0 t0 t3");
        told("load(0)", x, x.load(0), 3, 3);
        told("load(1)", x, x.load(1), 0, 0);
        told("load(3)", x, x.load(3), 1, 4);

        edge(15, "what all count that are with that one, those in BAGS aside; bits in BAGS, too");
        x = isle("p2 s0 h0 hz t1");
        x.step(1, 5);
        told("load(0), one in its SACK", x, x.load(0), 1, 3);
        x.step(2, 0);
        x.step(2, 5);
        told("load(0), two in its SACK", x, x.load(0), 1, 7);
        x.step(0, 4);
        told("load(0), the SACK left", x, x.load(0), 0, 0);
        x.step(0, 1);
        told("load(1), the SACK taken", x, x.load(1), 2, 15);

        edge(15, "BAD");
        ThreeThings y = isle("p2 t0");
        told("load(1), the last one", y, y.load(1), 0, 0);
        y.load(0);
        for (int none : new int[] {-1, 2, 3, 4, 5, MIN, MAX}) refused(y, "load(" + none + ")", BAD, z -> z.load(none));
    }

    private static void limit() {
        edge(16, "LIMIT (1 .. 6; 3 at first)");
        ThreeThings x = new ThreeThings();
        due("limit(1)", x.limit(1), 3);
        due("limit(6)", x.limit(6), 1);
        due("limit(6) again", x.limit(6), 6);
        for (int none : new int[] {0, 7, -1, MIN, MAX}) refused(x, "limit(" + none + ")", BAD, y -> y.limit(none));

        edge(16, "STATE: somebody has more");
        x = isle("p4 h3 t3 t0 hz hz");
        refused(x, "limit(2)", STATE, y -> y.limit(2));
        refused(x, "limit(1)", STATE, y -> y.limit(1));
        due("limit(3), as much", x.limit(3), 3);
        x.step(0, 4);
        due("limit(1), what lies on the BEACH aside", x.limit(1), 3);
        x = isle("p1 s0 t0 tz");
        refused(x, "limit(1), two", STATE, y -> y.limit(1));
        x.step(1, 5);
        due("limit(1), what is in BAGS aside", x.limit(1), 3);

        edge(16, "STEPS that are done: 0 then (also if LIMIT is as it was)");
        x = isle("p2 t0");
        x.step(0, 1);
        due("limit(3)", x.limit(3), 3);
        due("count(3)", x.count(3), 0);
        due("undo(0)", x.undo(0), 0);
        stands(x, 1, 3);

        edge(16, "a refused one leaves the STEPS that are done");
        x = isle("p2 t0 t0");
        x.step(0, 4);
        x.step(0, 0);
        refused(x, "limit(0)", BAD, y -> y.limit(0));
        refused(x, "limit(1)", STATE, y -> y.limit(1));
        due("count(3)", x.count(3), 2);
        due("undo(0)", x.undo(0), 2);

        edge(16, "BAD comes ahead of STATE");
        refused(x, "limit(0), somebody has more", BAD, y -> y.limit(0));

        edge(16, "40 STEPS can be done behind it anew");
        x = doneForty();
        x.limit(3);
        due("step(0, 4)", x.step(0, 4), 1);
    }

    // ---- 2 steps

    private static void can(ThreeThings x, int t, int to) {
        due("may(" + t + ", " + to + ")", x.may(t, to), 1);
        due("step(" + t + ", " + to + ")", x.step(t, to), 1);
    }

    private static void cannot(ThreeThings x, int t, int to) {
        refused(x, "may(" + t + ", " + to + ")", 0, y -> y.may(t, to));
        refused(x, "step(" + t + ", " + to + ")", STATE, y -> y.step(t, to));
    }

    private static void none(ThreeThings x, int t, int to) {
        refused(x, "may(" + t + ", " + to + ")", BAD, y -> y.may(t, to));
        refused(x, "step(" + t + ", " + to + ")", BAD, y -> y.step(t, to));
    }

    private static void gives() {
        edge(17, "GIVE a THING, if LOAD there stays within LIMIT");
        ThreeThings x = isle("p2 t0 t0 t1 t1");
        can(x, 0, 1);
        cannot(x, 1, 1);
        x.limit(4);
        can(x, 1, 1);
        stands(x, 1, 1, 1, 1, 4);

        edge(17, "GIVE a HEAVY one (counts 2)");
        x = isle("p2 h0 t1 t1");
        cannot(x, 0, 1);
        can(x, 1, 0);
        x = isle("p2 h0 t1");
        can(x, 0, 1);
        x = isle("p2 h0 t1");
        x.limit(2);
        cannot(x, 0, 1);

        edge(17, "GIVE a LIVING one, a BEAST");
        x = isle("p2 l0 t1 t1");
        can(x, 0, 1);
        x = isle("p2 e0 t1 t1");
        cannot(x, 0, 1);
        can(x, 1, 0);
        cannot(x, 2, 0);

        edge(17, "GIVE a BAG: what is in a BAG goes with it, and counts nothing");
        x = isle("p2 s0 h0 t1 t1");
        can(x, 1, 5);
        can(x, 0, 1);
        stands(x, 1, 5, 1, 1, 3);

        edge(17, "one to where it is: none such");
        x = isle("p2 t0 tz b0");
        cannot(x, 0, 0);
        cannot(x, 1, 4);
        cannot(x, 2, 0);
        x.step(0, 5);
        cannot(x, 0, 5);
    }

    private static void leavesAndTakes() {
        edge(17, "LEAVE it on the BEACH (no LIVING)");
        ThreeThings x = isle("p4 t0 b0 l1 h2 e3");
        can(x, 0, 4);
        can(x, 1, 4);
        cannot(x, 2, 4);
        can(x, 3, 4);
        cannot(x, 4, 4);
        stands(x, 4, 4, 1, 4, 3, 3);

        edge(17, "LEAVE a SACK, full: what is in it goes with it");
        x = isle("p1 s0 t0 t0");
        x.step(1, 5);
        x.step(2, 5);
        can(x, 0, 4);
        stands(x, 4, 5, 5, 3);

        edge(17, "TAKE it from the BEACH (LOAD within LIMIT)");
        x = isle("p1 t0 t0 tz tz");
        can(x, 2, 0);
        cannot(x, 3, 0);
        x = isle("p1 t0 t0 hz");
        cannot(x, 2, 0);
        x = isle("p1 t0 hz");
        can(x, 1, 0);
        x = isle("p1 tz hz");
        x.limit(1);
        cannot(x, 1, 0);
        can(x, 0, 0);
        x = isle("p1 hz hz hz");
        x.limit(6);
        for (int t = 0; t < 3; t++) can(x, t, 0);
        stands(x, 0, 0, 0, 6);

        edge(17, "the BEACH has no LIMIT");
        x = isle("p1 h0 hz hz hz hz");
        can(x, 0, 4);
        stands(x, 4, 4, 4, 4, 4, 3);
    }

    private static void stows() {
        edge(17, "STOW it into a BAG, if both are with one (or both on the BEACH)");
        ThreeThings x = isle("p2 t0 t1 tz b0");
        cannot(x, 1, 5);
        cannot(x, 2, 5);
        can(x, 0, 5);
        x = isle("p2 t0 tz bz");
        cannot(x, 0, 5);
        can(x, 1, 5);

        edge(17, "it is no BAG, LIVING");
        x = isle("p3 b0 s0 l0 e1");
        x.limit(6);
        x.step(3, 0);
        cannot(x, 0, 5);
        cannot(x, 0, 6);
        cannot(x, 1, 5);
        cannot(x, 1, 6);
        cannot(x, 2, 5);
        cannot(x, 2, 6);
        cannot(x, 3, 5);
        cannot(x, 3, 6);
        x = isle("p1 bz sz");
        cannot(x, 0, 6);
        cannot(x, 1, 5);

        edge(17, "and there is room: a BAG holds one");
        x = isle("p1 b0 t0 hz tz");
        can(x, 1, 5);
        can(x, 2, 0);
        cannot(x, 2, 5);
        can(x, 0, 4);
        can(x, 2, 4);
        cannot(x, 2, 5);
        cannot(x, 3, 5);
        stands(x, 4, 5, 4, 4, 3);

        edge(17, "and there is room: a SACK holds two");
        x = isle("p1 sz tz hz tz tz");
        can(x, 1, 5);
        can(x, 2, 5);
        cannot(x, 3, 5);
        can(x, 1, 4);
        can(x, 3, 5);
        cannot(x, 4, 5);

        edge(17, "STOW a HEAVY one into a BAG (it is one THING)");
        x = isle("p1 b0 h0");
        can(x, 1, 5);

        edge(17, "two BAGS: each has its room");
        x = isle("p1 bz bz tz tz tz");
        can(x, 2, 5);
        cannot(x, 3, 5);
        can(x, 3, 6);
        cannot(x, 4, 5);
        cannot(x, 4, 6);
    }

    private static void unpacks() {
        edge(17, "UNPACK it: it is where the BAG is (with one: LOAD within LIMIT)");
        ThreeThings x = isle("p2 b0 t0 tz tz t1");
        x.step(1, 5);
        x.step(2, 0);
        can(x, 1, 0);
        x.step(1, 5);
        x.step(3, 0);
        cannot(x, 1, 0);
        x.limit(4);
        can(x, 1, 0);
        x = isle("p1 b0 h0 tz");
        x.step(1, 5);
        x.step(2, 0);
        cannot(x, 1, 0);
        x.step(2, 4);
        can(x, 1, 0);

        edge(17, "UNPACK on the BEACH (no LIMIT there)");
        x = isle("p1 bz hz hz hz hz");
        x.step(1, 5);
        can(x, 1, 4);

        edge(17, "One of a THING in a BAG to elsewhere than the BAG: none such");
        x = isle("p3 b0 s0 t0");
        x.step(2, 5);
        for (int to : new int[] {1, 2, 4, 5, 6}) cannot(x, 2, to);
        x.step(0, 1);
        for (int to : new int[] {0, 2, 4, 5, 6}) cannot(x, 2, to);
        x.step(0, 4);
        for (int to : new int[] {0, 1, 2, 5, 6}) cannot(x, 2, to);
        can(x, 2, 4);
    }

    private static void step() {
        edge(17, "BAD: no THING");
        ThreeThings x = isle("p1 t0 tz b0");
        for (int t : new int[] {-1, 3, 4, 5, MIN, MAX}) none(x, t, 0);

        edge(17, "BAD: not 0 .. 6");
        x = isle("p4 t0 b0 s1");
        can(x, 0, 1);
        can(x, 0, 6);
        for (int to : new int[] {-1, 7, MIN, MAX}) none(x, 0, to);

        edge(17, "BAD: more than there are PEOPLE");
        for (int people = 1; people <= 4; people++) {
            x = isle("p" + people + " tz");
            for (int to = 0; to < 4; to++) {
                if (to >= people) none(x, 0, to);
                else due("may(0, " + to + ")", x.may(0, to), 1);
            }
            cannot(x, 0, 4);
        }

        edge(17, "BAD: more than there are BAGS");
        x = isle("p1 t0");
        none(x, 0, 5);
        none(x, 0, 6);
        x = isle("p1 t0 b0");
        none(x, 0, 6);
        can(x, 0, 5);
        x = isle("p1 t0 b0 s0");
        can(x, 0, 6);

        edge(17, "FULL: 40 are done");
        x = isle("p2 t0 b1");
        for (int i = 0; i < 39; i++) x.step(0, i % 2 == 0 ? 4 : 0);
        due("the 40th", x.step(0, 0), 1);
        refused(x, "the 41st", FULL, y -> y.step(0, 4));
        refused(x, "the 41st again", FULL, y -> y.step(1, 0));
        x.undo(39);
        due("the 40th anew", x.step(0, 0), 1);
        refused(x, "the 41st still", FULL, y -> y.step(0, 4));

        edge(17, "(FULL last.)");
        refused(x, "none such", STATE, y -> y.step(0, 0));
        refused(x, "one that can't be", STATE, y -> y.step(0, 5));
        refused(x, "no THING", BAD, y -> y.step(2, 0));
        refused(x, "no place", BAD, y -> y.step(0, 2));

        edge(17, "BAD comes ahead of STATE");
        x = isle("p1 l0");
        refused(x, "a LIVING one into no BAG", BAD, y -> y.step(0, 5));
    }

    private static void may() {
        edge(18, "Whether a STEP can be: 1, 0 (it stays as it is)");
        ThreeThings x = isle("p2 t0 t1 t1 t1");
        refused(x, "may(0, 1)", 0, y -> y.may(0, 1));
        refused(x, "may(1, 0)", 1, y -> y.may(1, 0));
        refused(x, "may(0, 4)", 1, y -> y.may(0, 4));
        stands(x, 0, 1, 1, 1, 3);

        edge(18, "with 40 done it can be, and can't be done");
        x = doneForty();
        refused(x, "may(0, 4)", 1, y -> y.may(0, 4));
        refused(x, "may(0, 5)", 0, y -> y.may(0, 5));

        edge(18, "BAD");
        ThreeThings y = isle("p2 t0 b1");
        for (int t : new int[] {-1, 2, MIN, MAX}) refused(y, "may(" + t + ", 4)", BAD, z -> z.may(t, 4));
        for (int to : new int[] {-1, 2, 3, 6, 7, MIN, MAX}) refused(y, "may(0, " + to + ")", BAD, z -> z.may(0, to));
    }

    private static void steps() {
        edge(19, "How many STEPS can be; the first by asked() (NONE)");
        ThreeThings x = new ThreeThings();
        told("of nobody", x, x.steps(), 0, NONE);
        x = isle("p1");
        told("without THINGS", x, x.steps(), 0, NONE);
        x = isle("p1 l0 e0");
        told("where none can be", x, x.steps(), 0, NONE);
        x = isle("p2 l0 l0 l0 l1 l1");
        // Each of 0's to 1, who has room for one; 1's to nobody.
        told("where the first three can be", x, x.steps(), 3, 1);

        edge(19, "the first (by its number): number 0");
        x = isle("p1 tz");
        told("TAKE alone", x, x.steps(), 1, 0);

        edge(19, "the first (by its number): of the last THING");
        x = isle("p1 l0 l0 bz bz tz");
        x.limit(2);
        // Nothing can be taken: the last one goes into either BAG, and out again.
        told("STOW alone", x, x.steps(), 2, 33);
        x.step(4, 6);
        told("UNPACK alone", x, x.steps(), 1, 32);

        edge(19, "the most there are");
        x = isle("p4 tz tz tz sz sz");
        // A THING to 4 of PEOPLE and into 2 SACKS, a SACK to 4.
        told("on the BEACH", x, x.steps(), 26, 0);

        edge(19, "with 40 done");
        x = doneForty();
        // THING 0 to 1 and the BEACH, the BAG to 0 and the BEACH.
        told("as ever", x, x.steps(), 4, 1);
    }

    private static void undo() {
        edge(20, "n 0 to how many there are: then 0");
        ThreeThings x = isle("p1 t0 tz");
        due("undo(0) of none", x.undo(0), 0);
        refused(x, "undo(1) of none", BAD, y -> y.undo(1));
        x.step(0, 4);
        x.step(1, 0);
        x.step(1, 4);
        refused(x, "undo(3) of 3", 0, y -> y.undo(3));
        refused(x, "undo(4) of 3", BAD, y -> y.undo(4));
        refused(x, "undo(-1)", BAD, y -> y.undo(-1));
        refused(x, "undo(MIN)", BAD, y -> y.undo(MIN));
        refused(x, "undo(MAX)", BAD, y -> y.undo(MAX));
        due("undo(2), the last", x.undo(2), 1);
        stands(x, 4, 0, 3);
        due("undo(0), all", x.undo(0), 2);
        stands(x, 0, 4, 3);
        due("count(3)", x.count(3), 0);

        edge(20, "STEPS from number n on (40)");
        x = doneForty();
        due("undo(39)", x.undo(39), 1);
        stands(x, 4, 1, 3);
        due("undo(0)", x.undo(0), 39);
        stands(x, 0, 1, 3);

        edge(20, "the last one first");
        x = isle("p3 t0 b0 t1");
        x.step(0, 5);
        x.step(1, 1);
        x.step(0, 1);
        x.step(0, 2);
        due("undo(0)", x.undo(0), 4);
        stands(x, 0, 0, 1, 3);

        edge(20, "what was SEEN, kept stays");
        x = isle("p1 t0 w000:1");
        x.saw(0, 1);
        x.step(0, 4);
        x.keep(1);
        x.undo(0);
        due("count(5)", x.count(5), 1);
        x.on(1);
        stands(x, 4, 3);
    }

    private static void does() {
        edge(21, "until one can't be: how many were (none, all)");
        ThreeThings x = isle("p2 t0 tz");
        rowOf(x, 0);
        due("of no numbers", x.does(0), 0);
        rowOf(x, 0, 0);
        refused(x, "of one that can't be", 0, y -> y.does(0));
        rowOf(x, 0, 0, 1, 4);
        refused(x, "the first can't be", 0, y -> y.does(0));
        rowOf(x, 0, 1, 1, 4);
        due("the second can't be", x.does(0), 1);
        stands(x, 1, 4, 3);
        rowOf(x, 0, 4, 7, 11);
        due("all three", x.does(0), 3);
        due("count(3)", x.count(3), 4);
        stands(x, 4, 4, 3);
        due("undo(1)", x.undo(1), 3);
        stands(x, 1, 4, 3);

        edge(21, "UNLIKE: a number that is none (of THINGS, places that there are)");
        x = isle("p2 t0 tz b1");
        rowOf(x, 0, 19);
        due("does() with 19, the BAG into itself", x.does(0), 0);
        for (int v : new int[] {-1, -7, 2, 3, 6, 9, 10, 13, 16, 17, 20, 21, 28, 35, MIN, MAX}) {
            rowOf(x, 0, v);
            finds(x, "does(" + v + ")", UNLIKE, y -> y.does(0));
        }
        rowOf(x, 0, 1, 4, 20);
        finds(x, "none is done, if the last is none", UNLIKE, y -> y.does(0));
        rowOf(x, 0, 0, 0, 3);
        finds(x, "one that is none behind one that can't be", UNLIKE, y -> y.does(0));
        x = isle("p4 t0 tz tz sz sz");
        rowOf(x, 0, 34);
        due("does(34), the last number", x.does(0), 0);
        rowOf(x, 0, 35);
        finds(x, "does(35)", UNLIKE, y -> y.does(0));
        ThreeThings nobody = new ThreeThings();
        rowOf(nobody, 0, 0);
        finds(nobody, "does() of nobody", UNLIKE, y -> y.does(0));

        edge(21, "NOTHING");
        finds(x, "does(1)", NOTHING, y -> y.does(1));
        doesMany();
    }

    private static void doesMany() {
        int[] row = new int[41];
        for (int i = 0; i < 41; i++) row[i] = i % 2 == 0 ? 4 : 0;

        edge(21, "FULL: more than 40 in all");
        ThreeThings x = isle("p1 t0");
        rowOf(x, 0, row);
        refused(x, "41", FULL, y -> y.does(0));
        rowOf(x, 0, Arrays.copyOf(row, 40));
        due("40", x.does(0), 40);
        due("count(3)", x.count(3), 40);
        stands(x, 0, 3);
        rowOf(x, 1, 4);
        refused(x, "one behind 40", FULL, y -> y.does(1));
        rowOf(x, 1);
        due("none behind 40", x.does(1), 0);
        x.undo(39);
        rowOf(x, 1, 0);
        due("one behind 39", x.does(1), 1);
        x.undo(39);
        rowOf(x, 1, 0, 4);
        refused(x, "two behind 39", FULL, y -> y.does(1));

        edge(21, "FULL: more than 40 in all, whether or not they can be");
        x = isle("p1 t0");
        rowOf(x, 0, of(41, 0));
        refused(x, "41 that can't be", FULL, y -> y.does(0));
        rowOf(x, 0, of(40, 0));
        due("40 that can't be", x.does(0), 0);

        edge(21, "(In this order.)");
        x = doneForty();
        refused(x, "does(6)", BAD, y -> y.does(6));
        finds(x, "a missing one behind 40", NOTHING, y -> y.does(0));
        rowOf(x, 0, 4, 6);
        finds(x, "one that is none behind 40", UNLIKE, y -> y.does(0));
        rowOf(x, 0, 4, 0);
        refused(x, "two behind 40", FULL, y -> y.does(0));
    }

    private static void keepAndOn() {
        edge(22, "in a place (0 .. 2)");
        ThreeThings x = isle("p2 t0");
        due("keep(0)", x.keep(0), 0);
        x.step(0, 1);
        due("keep(1)", x.keep(1), 1);
        x.step(0, 4);
        due("keep(2)", x.keep(2), 2);
        for (int none : new int[] {-1, 3, MIN, MAX}) {
            refused(x, "keep(" + none + ")", BAD, y -> y.keep(none));
            refused(x, "on(" + none + ")", BAD, y -> y.on(none));
        }
        int[] where = {0, 1, 4};
        for (int k = 2; k >= 0; k--) {
            due("on(" + k + ")", x.on(k), 1);
            stands(x, where[k], 3);
        }

        edge(22, "how many STEPS are done (40)");
        x = doneForty();
        due("keep(0)", x.keep(0), 40);
        due("count(3) stays", x.count(3), 40);

        edge(22, "a place that is taken is taken anew");
        x = isle("p1 t0");
        x.keep(0);
        x.step(0, 4);
        x.keep(0);
        x.undo(0);
        x.on(0);
        stands(x, 4, 3);

        edge(22, "STATE: no PEOPLE; BAD ahead of it");
        ThreeThings nobody = new ThreeThings();
        refused(nobody, "keep(0)", STATE, y -> y.keep(0));
        refused(nobody, "keep(2)", STATE, y -> y.keep(2));
        refused(nobody, "keep(3)", BAD, y -> y.keep(3));
        refused(nobody, "keep(-1)", BAD, y -> y.keep(-1));

        edge(22, "PEOPLE without THINGS can be kept");
        x = isle("p1");
        x.limit(5);
        due("keep(1)", x.keep(1), 0);
        x.limit(1);
        due("on(1)", x.on(1), 1);
        stands(x, 5);

        edge(22, "what was SEEN is not");
        x = isle("p1 t0 w000:1");
        x.saw(0, 1);
        x.keep(0);
        x.forget(0);
        x.on(0);
        due("count(5)", x.count(5), 0);
        on();
    }

    private static void on() {
        edge(23, "All is as it was kept (LIMIT, too; STEPS that are done: 0 then)");
        ThreeThings x = isle("p2 t0 t0 t1");
        x.limit(2);
        x.keep(0);
        x.limit(6);
        x.step(0, 1);
        x.step(1, 1);
        due("on(0)", x.on(0), 1);
        stands(x, 0, 0, 1, 2);
        due("count(3)", x.count(3), 0);
        refused(x, "undo(1)", BAD, y -> y.undo(1));
        due("on(0) again", x.on(0), 1);
        stands(x, 0, 0, 1, 2);

        edge(23, "NOTHING (a kept STATE that is missing); BAD ahead of it");
        finds(x, "on(1)", NOTHING, y -> y.on(1));
        finds(x, "on(2)", NOTHING, y -> y.on(2));
        refused(x, "on(3)", BAD, y -> y.on(3));
        x.step(0, 1);
        finds(x, "on(2), a STEP done", NOTHING, y -> y.on(2));
        due("count(3) stays", x.count(3), 1);

        edge(23, "another ISLAND keeps nothing of it");
        x.island(3);
        finds(x, "on(0)", NOTHING, y -> y.on(0));
    }

    private static void can() {
        edge(24, "WORKS (bits) that CAN be done (none, all 8)");
        ThreeThings x = new ThreeThings();
        told("of nobody", x, x.can(), 0, 0);
        x = isle("p1 t0");
        told("without WORKS", x, x.can(), 0, 0);
        x = isle("p1 t0" + " w000:9".repeat(8));
        told("all", x, x.can(), 255, 72);
        x.step(0, 4);
        told("none", x, x.can(), 0, 0);

        edge(24, "if all its THINGS are with its one, in BAGS, too");
        x = isle("p2 t0 t0 b0 t1 w0001:1 w0002:2 w1103:4");
        told("one is with another one", x, x.can(), 3, 3);
        x.step(0, 5);
        told("one is in the BAG", x, x.can(), 3, 3);
        x.step(2, 1);
        told("the BAG is with 1, too", x, x.can(), 4, 4);
        x.step(2, 4);
        told("the BAG is on the BEACH", x, x.can(), 0, 0);
    }

    private static void day() {
        edge(25, "m (1 .. 4) STEPS; SIZE: not 6, 12, 18, 24");
        ThreeThings x = null;
        for (int n = 0; n <= 60; n++) {
            x = isle("p1 t0 w000:2 w500:3");
            x.row(0, n);
            if (n == 6 || n == 12 || n == 18 || n == 24) told("day of " + n, x, x.day(0), 3, 5);
            else finds(x, "day of " + n, SIZE, y -> y.day(0));
        }

        edge(25, "ahead of each HOUR (the last of those ahead of HOUR 0, the first of those ahead of HOUR 1)");
        for (int m = 1; m <= 4; m++) {
            x = isle("p1 t0 w000:2 w100:3 w500:4");
            int[] row = of(6 * m, -1);
            row[m - 1] = 4;
            rowOf(x, 0, row);
            told("left ahead of HOUR 0, m " + m, x, x.day(0), 0, 0);
            row[m - 1] = -1;
            row[m] = 4;
            rowOf(x, 0, row);
            told("left ahead of HOUR 1, m " + m, x, x.day(0), 1, 2);
            row[m] = -1;
            row[6 * m - 1] = 4;
            rowOf(x, 0, row);
            told("left ahead of HOUR 5, m " + m, x, x.day(0), 3, 5);
        }

        edge(25, "one that can't be is passed");
        x = isle("p1 tz w000:2 w500:3");
        rowOf(x, 0, 4, 0, 0, 0, 0, 0, 0, 0, 0, 0, 0, 0);
        told("from the BEACH to the BEACH", x, x.day(0), 3, 5);
        rowOf(x, 0, 0, 0, -1, -1, -1, -1);
        told("to where it is", x, x.day(0), 3, 5);
        x = isle("p2 t0 t1 t1 t1 w110:5");
        rowOf(x, 0, 1, 11, -1, -1, -1, -1, -1, -1, -1, -1, -1, -1);
        told("above LIMIT, and not tried again", x, x.day(0), 0, 0);

        edge(25, "(All stays as it is.)");
        x = isle("p1 t0 w000:2 w500:3");
        rowOf(x, 0, -1, 4, -1, -1, -1, -1);
        for (int i = 0; i < 40; i++) x.step(0, i % 2 == 0 ? 4 : 0);
        told("with 40 done", x, x.day(0), 1, 2);
        due("count(3)", x.count(3), 40);
        stands(x, 0, 3);
        dayRefused();
    }

    private static void dayRefused() {
        edge(25, "UNLIKE: a number that is none, nor -1");
        ThreeThings x = null;
        for (int v : new int[] {-2, 2, 3, 6, 20, 21, 35, MIN, MAX}) {
            x = isle("p2 t0 tz b1");
            for (int place : new int[] {0, 5}) {
                int[] row = of(6, -1);
                row[place] = v;
                rowOf(x, 0, row);
                finds(x, "day() with " + v + " at " + place, UNLIKE, y -> y.day(0));
            }
        }
        x = isle("p4 tz tz tz tz sz");
        rowOf(x, 0, 0, 1, 2, 3, 4, 5);
        told("numbers that there are", x, x.day(0), 0, 0);
        rowOf(x, 0, 33, 32, 31, 30, 29, 28);
        told("the last numbers", x, x.day(0), 0, 0);
        ThreeThings nobody = new ThreeThings();
        rowOf(nobody, 0, of(6, -1));
        told("a DAY of nobody", nobody, nobody.day(0), 0, 0);
        nobody.row(0, 6);
        finds(nobody, "a number of nobody", UNLIKE, y -> y.day(0));

        edge(25, "BAD, NOTHING, SIZE, UNLIKE: the first that fits");
        x = isle("p1 t0");
        refused(x, "day(6)", BAD, y -> y.day(6));
        finds(x, "day(1)", NOTHING, y -> y.day(1));
        rowOf(x, 0, of(5, 99));
        finds(x, "day of 5 that are none", SIZE, y -> y.day(0));
        rowOf(x, 0, of(30, 99));
        finds(x, "day of 30 that are none", SIZE, y -> y.day(0));
    }

    // ---- 3 fewest, most

    private static void fewest() {
        edge(26, "to where each THING is as a ROW tells (of no THINGS)");
        ThreeThings x = isle("p1");
        x.row(0, 0);
        told("fewest() without THINGS", x, x.fewest(0), 0, 1);
        x.row(0, 1);
        finds(x, "fewest() of one", SIZE, y -> y.fewest(0));
        ThreeThings nobody = new ThreeThings();
        nobody.row(0, 0);
        told("fewest() of nobody", nobody, nobody.fewest(0), 0, 1);

        edge(26, "-1: anywhere; as it is");
        x = isle("p2 t0 b0");
        rowOf(x, 0, -1, -1);
        told("anywhere", x, x.fewest(0), 0, 1);
        rowOf(x, 0, 0, 0);
        told("as it is", x, x.fewest(0), 0, 1);

        edge(26, "how many such states are as near");
        // Both left, or the THING in the BAG, and that left.
        rowOf(x, 0, 4, 4);
        told("both on the BEACH", x, x.fewest(0), 2, 2);
        rowOf(x, 0, 4, -1);
        told("one on the BEACH", x, x.fewest(0), 1, 1);
        rowOf(x, 0, -1, 1);
        told("one with 1", x, x.fewest(0), 1, 1);
        stands(x, 0, 0, 3);

        edge(26, "with whom, in the end: in a BAG is with who has that");
        x = isle("p2 t0 b0 t1 t1");
        // Both by themselves would be above LIMIT 3.
        rowOf(x, 0, 1, 1, 1, 1);
        told("all with 1", x, x.fewest(0), 2, 1);

        edge(26, "NONE: never");
        x = isle("p2 t0 t1 t1 t1");
        rowOf(x, 0, 1, -1, -1, 1);
        told("another one goes ahead", x, x.fewest(0), 2, 4);
        rowOf(x, 0, 1, 1, 1, 1);
        refused(x, "above LIMIT", NONE, y -> y.fewest(0));
        x.limit(4);
        told("within LIMIT 4", x, x.fewest(0), 1, 1);
        x = isle("p1 l0 tz");
        rowOf(x, 0, 4, -1);
        refused(x, "a LIVING one on the BEACH", NONE, y -> y.fewest(0));
        x = isle("p2 e0 e1");
        rowOf(x, 0, 1, 0);
        refused(x, "neither can go first", NONE, y -> y.fewest(0));
        x.limit(4);
        told("within LIMIT 4", x, x.fewest(0), 2, 1);
        fewestRefused();
    }

    private static void fewestRefused() {
        edge(26, "SIZE: not as many as THINGS");
        ThreeThings x = isle("p4 tz tz");
        for (int n : new int[] {0, 1, 3, 60}) {
            x.row(0, n);
            finds(x, "fewest() of " + n, SIZE, y -> y.fewest(0));
            finds(x, "way() of " + n, SIZE, y -> y.way(0, 1));
        }
        x.row(0, 2);
        told("fewest() of 2", x, x.fewest(0), 2, 1);

        edge(26, "UNLIKE: none of PEOPLE, 4, -1");
        for (int people = 1; people <= 4; people++) {
            x = isle("p" + people + " tz");
            for (int v = -1; v <= 4; v++) {
                rowOf(x, 0, v);
                if (v >= people && v < 4) finds(x, "fewest() of " + v, UNLIKE, y -> y.fewest(0));
                else told("fewest() of " + v, x, x.fewest(0), v < 0 || v == 4 ? 0 : 1, 1);
            }
        }
        for (int v : new int[] {-2, 5, 6, MIN, MAX}) {
            x = isle("p4 t0 b0");
            rowOf(x, 0, v, -1);
            finds(x, "fewest() of " + v, UNLIKE, y -> y.fewest(0));
            finds(x, "way() of " + v, UNLIKE, y -> y.way(0, 1));
            rowOf(x, 0, -1, v);
            finds(x, "fewest() of -1, " + v, UNLIKE, y -> y.fewest(0));
            finds(x, "way() of -1, " + v, UNLIKE, y -> y.way(0, 1));
        }

        edge(26, "BAD, NOTHING, SIZE, UNLIKE: the first that fits");
        x = isle("p1 t0");
        refused(x, "fewest(6)", BAD, y -> y.fewest(6));
        finds(x, "fewest(0)", NOTHING, y -> y.fewest(0));
        rowOf(x, 0, 9, 9);
        finds(x, "fewest() of two that are none", SIZE, y -> y.fewest(0));
    }

    private static void way() {
        edge(27, "comes to a ROW (anew): how many (none)");
        ThreeThings x = isle("p2 h0 h1");
        rowOf(x, 0, 0, 1);
        rowOf(x, 1, 7, 7, 7);
        due("way(0, 1)", x.way(0, 1), 0);
        rowIs(x, 1);
        due("way(0, 2) to a missing one", x.way(0, 2), 0);
        due("count(6)", x.count(6), 3);
        rowIs(x, 2);
        rowIs(x, 0, 0, 1);

        edge(27, "The first row of as few STEPS (by their numbers)");
        rowOf(x, 0, 1, 0);
        rowOf(x, 1, of(60, 7));
        // Or 11, 1, 7.
        due("way(0, 1)", x.way(0, 1), 3);
        rowIs(x, 1, 4, 7, 1);
        stands(x, 0, 1, 3);
        due("count(3)", x.count(3), 0);

        edge(27, "The first row, of such states the one that it leads to");
        x = isle("p2 t0 b0");
        rowOf(x, 0, 4, 4);
        // Or 5, 11, or 11, 4.
        due("way(0, 1)", x.way(0, 1), 2);
        rowIs(x, 1, 4, 11);

        edge(27, "onto the ROW that tells it");
        due("way(0, 0)", x.way(0, 0), 2);
        rowIs(x, 0, 4, 11);

        edge(27, "NONE: a ROW that something was to come to stays as it is then");
        x = isle("p2 l0 t1");
        rowOf(x, 0, 4, -1);
        rowOf(x, 1, 7, 8);
        refused(x, "way(0, 1)", NONE, y -> y.way(0, 1));
        refused(x, "way(0, 2) to a missing one", NONE, y -> y.way(0, 2));
        refused(x, "way(0, 0) onto itself", NONE, y -> y.way(0, 0));
        rowIs(x, 1, 7, 8);

        edge(27, "it tells nothing by asked()");
        rowOf(x, 0, -1, -1);
        x.thing(1, 2);
        due("way(0, 1)", x.way(0, 1), 0);
        due("asked()", x.asked(), 1);

        edge(27, "without PEOPLE");
        ThreeThings nobody = new ThreeThings();
        nobody.row(0, 0);
        due("way(0, 3) of nobody", nobody.way(0, 3), 0);
        rowIs(nobody, 3);

        edge(27, "BAD (either), NOTHING, SIZE, UNLIKE: the first that fits");
        ThreeThings y = isle("p1 t0");
        refused(y, "way(0, 6), ROW 0 missing", BAD, z -> z.way(0, 6));
        refused(y, "way(6, 0)", BAD, z -> z.way(6, 0));
        finds(y, "way(0, 1)", NOTHING, z -> z.way(0, 1));
        rowOf(y, 0, 9, 9);
        refused(y, "way(0, -1), none of them", BAD, z -> z.way(0, -1));
        finds(y, "way() of two that are none", SIZE, z -> z.way(0, 1));
        rowOf(y, 0, 1);
        finds(y, "way() to one who is none", UNLIKE, z -> z.way(0, 1));
        due("the ROW that was to come is missing still", y.count(6), 1);
    }

    private static void all() {
        edge(28, "How many states can be come to (one); the most STEPS (none)");
        ThreeThings x = new ThreeThings();
        told("of nobody", x, x.all(), 1, 0);
        x = isle("p4");
        told("without THINGS", x, x.all(), 1, 0);
        x = isle("p1 e0 l0");
        told("where no STEP can be", x, x.all(), 1, 0);
        x = isle("p1 t0");
        told("two states", x, x.all(), 2, 1);
        stands(x, 0, 3);

        edge(28, "How many states (as many as there can be at all)");
        x = isle("p4 tz tz tz sz sz");
        // The SACKS at 5 places, the THINGS at 7, but not all three in one SACK: 25 * (343 - 2). No LOAD is above 5.
        x.limit(5);
        due("by LIMIT 5", x.all(), 8525);
        x.limit(6);
        due("by LIMIT 6", x.all(), 8525);
        x = isle("p4 tz tz tz tz tz");
        x.limit(5);
        told("without BAGS", x, x.all(), 3125, 5);
        x = isle("p4 tz tz tz tz tz");
        x.limit(1);
        // None to four of the THINGS with as many of PEOPLE: 1 + 5 * 4 + 10 * 12 + 10 * 24 + 5 * 24.
        told("by LIMIT 1", x, x.all(), 501, 4);

        edge(28, "with 40 done");
        x = doneForty();
        told("as ever", x, x.all(), 12, 3);
    }

    private static void till() {
        edge(29, "The fewest STEPS till a WORK CAN be done (none)");
        ThreeThings x = isle("p2 t0 w000:1 w010:1");
        refused(x, "till(0)", 0, y -> y.till(0));
        refused(x, "till(1)", 1, y -> y.till(1));

        edge(29, "NONE: never");
        x = isle("p1 hz hz w0001:1 w000:1");
        refused(x, "till(0), above LIMIT", NONE, y -> y.till(0));
        refused(x, "till(1)", 1, y -> y.till(1));
        x.limit(4);
        refused(x, "till(0), within LIMIT 4", 2, y -> y.till(0));
        x = isle("p2 e0 e1 w001:1");
        refused(x, "till(0), LIVING ones", NONE, y -> y.till(0));

        edge(29, "BAD: no WORK");
        ThreeThings y = isle("p1 t0" + " w000:1".repeat(8));
        due("till(7)", y.till(7), 0);
        for (int none : new int[] {-1, 8, MIN, MAX}) refused(y, "till(" + none + ")", BAD, z -> z.till(none));
        refused(isle("p1 t0"), "till(0) without WORKS", BAD, z -> z.till(0));
        refused(new ThreeThings(), "till(0) of nobody", BAD, z -> z.till(0));
    }

    private static void most() {
        edge(30, "with m (0 .. 2) STEPS ahead of each HOUR");
        ThreeThings x = isle("p1 tz tz w0001:5 w000:2");
        told("most(0)", x, x.most(0), 0, 7);
        told("most(1), one STEP ahead of HOUR 0", x, x.most(1), 2, 7);
        told("most(2), two STEPS ahead of HOUR 0", x, x.most(2), 7, 7);
        for (int none : new int[] {-1, 3, MIN, MAX}) refused(x, "most(" + none + ")", BAD, y -> y.most(none));

        edge(30, "ahead of each HOUR (six STEPS ahead of HOUR 5, five ahead of HOUR 4)");
        // Two pairs of HEAVY ones change hands: three STEPS each.
        x = isle("p4 h0 h1 h2 h3 w501:1 w510:2 w523:3 w532:4");
        told("most(1) at HOUR 5", x, x.most(1), 10, 10);
        x = isle("p4 h0 h1 h2 h3 w401:1 w410:2 w423:3 w432:4");
        // Three STEPS for 3 and 4, two for 2.
        told("most(1) at HOUR 4", x, x.most(1), 9, 10);
        told("most(2) at HOUR 4", x, x.most(2), 10, 10);

        edge(30, "ahead of HOUR 2 (six with 2 ahead of each)");
        x = isle("p4 h0 h1 h2 h3 w201:1 w210:2 w223:3 w232:4");
        told("most(2) at HOUR 2", x, x.most(2), 10, 10);
        x = isle("p4 h0 h1 h2 h3 w101:1 w110:2 w123:3 w132:4");
        // Four STEPS: three for 3 and 4, one for none; or two for 2, two for 4.
        told("most(2) at HOUR 1", x, x.most(2), 7, 10);

        edge(30, "The most WORTH (none; all of 8 with 9)");
        x = new ThreeThings();
        told("of nobody", x, x.most(2), 0, 0);
        x = isle("p2 t0");
        told("without WORKS", x, x.most(2), 0, 0);
        x = isle("p1 t0" + " w000:9".repeat(8));
        told("all", x, x.most(0), 72, 72);

        edge(30, "where there are as many states as there can be");
        x = isle("p4 tz tz tz sz sz w5301234:9 w003:1");
        x.limit(5);
        // 0 takes the SACK ahead of HOUR 0 and gives it to 3, who takes the others: six STEPS of twelve.
        told("most(2)", x, x.most(2), 10, 10);
        // By LIMIT 1 one has a SACK of two at most.
        due("creed(1, 2)", x.creed(1, 2), 1);
        due("hand(2)", x.hand(2), 0);

        edge(30, "HOURS of none between");
        x = isle("p2 tz w000:1 w510:2");
        told("most(1)", x, x.most(1), 3, 3);
        told("most(0)", x, x.most(0), 0, 3);

        edge(30, "the same HOUR: what is with one can't be with another one");
        x = isle("p2 t0 w310:4 w300:3");
        told("most(0)", x, x.most(0), 3, 7);
        told("most(2)", x, x.most(2), 4, 7);

        edge(30, "from as it is; it stays (with 40 done)");
        x = doneForty();
        told("most(2)", x, x.most(2), 0, 0);
        due("count(3)", x.count(3), 40);
        stands(x, 0, 1, 3);
    }

    private static void hand() {
        edge(31, "by how much most(m) would be more, if LIMIT were 1 more");
        ThreeThings x = isle("p1 hz hz w1001:7");
        refused(x, "hand(0) at 3", 0, y -> y.hand(0));
        refused(x, "hand(1) at 3", 7, y -> y.hand(1));
        x.limit(2);
        refused(x, "hand(1) at 2", 0, y -> y.hand(1));
        x.limit(4);
        refused(x, "hand(1) at 4", 0, y -> y.hand(1));

        edge(31, "(6 at most: 0)");
        x = isle("p1 hz hz hz w50012:7");
        x.limit(5);
        refused(x, "hand(1) at 5", 7, y -> y.hand(1));
        x.limit(6);
        refused(x, "hand(1) at 6", 0, y -> y.hand(1));
        x = isle("p1 hz hz hz tz w500123:7");
        x.limit(6);
        refused(x, "hand(2) at 6, 7 being wanted", 0, y -> y.hand(2));
        due("limit(6), what it was", x.limit(6), 6);

        edge(31, "BAD");
        for (int none : new int[] {-1, 3, MIN, MAX}) refused(x, "hand(" + none + ") at 6", BAD, y -> y.hand(none));
        x.limit(3);
        for (int none : new int[] {-1, 3, MIN, MAX}) refused(x, "hand(" + none + ")", BAD, y -> y.hand(none));

        edge(31, "without WORKS, of nobody");
        refused(isle("p2 t0"), "hand(2) without WORKS", 0, y -> y.hand(2));
        refused(new ThreeThings(), "hand(2) of nobody", 0, y -> y.hand(2));
    }

    private static void creed() {
        edge(32, "by LIMIT v (1 .. 6)");
        ThreeThings x = isle("p1 tz tz tz hz hz w000:1 w1001:1 w20012:1 w300123:1 w4001234:1");
        // 1, 2, 3, 5, 7 in one's hands.
        int[] want = {1, 2, 3, 3, 4, 4};
        for (int v = 1; v <= 6; v++) {
            final int limit = v;
            refused(x, "creed(" + v + ", 1)", want[v - 1], y -> y.creed(limit, 1));
        }
        for (int none : new int[] {0, 7, -1, MIN, MAX}) {
            refused(x, "creed(" + none + ", 1)", BAD, y -> y.creed(none, 1));
        }

        edge(32, "m (0 .. 2)");
        x = isle("p1 tz tz w0001:5 w000:2");
        int[] most = {0, 2, 7};
        for (int m = 0; m < 3; m++) {
            final int ahead = m;
            refused(x, "creed(2, " + m + ")", most[m], y -> y.creed(2, ahead));
        }
        for (int none : new int[] {-1, 3, MIN, MAX}) refused(x, "creed(2, " + none + ")", BAD, y -> y.creed(2, none));

        edge(32, "STATE: somebody has more");
        x = isle("p4 t0 h3 w031:3");
        refused(x, "creed(2, 0), as much", 3, y -> y.creed(2, 0));
        refused(x, "creed(1, 0)", STATE, y -> y.creed(1, 0));
        x.step(1, 4);
        refused(x, "creed(1, 0), left on the BEACH", 0, y -> y.creed(1, 0));

        edge(32, "BAD comes ahead of STATE");
        x = isle("p1 h0");
        refused(x, "creed(0, 0)", BAD, y -> y.creed(0, 0));
        refused(x, "creed(1, 3)", BAD, y -> y.creed(1, 3));
        refused(x, "creed(1, -1)", BAD, y -> y.creed(1, -1));
        refused(x, "creed(1, 0)", STATE, y -> y.creed(1, 0));

        edge(32, "of nobody");
        refused(new ThreeThings(), "creed(1, 2)", 0, y -> y.creed(1, 2));
    }

    // ---- 4 theft, neighbours, the drowned

    private static void theftIs(ThreeThings x, int p, int t, int want) {
        refused(x, "theft(" + p + ", " + t + ")", want, y -> y.theft(p, t));
    }

    private static void theft() {
        edge(33, "0: it has it (in a BAG, too)");
        ThreeThings x = isle("p2 t0 b0 t1");
        theftIs(x, 0, 0, 0);
        x.step(0, 5);
        theftIs(x, 0, 0, 0);
        theftIs(x, 1, 0, NONE);

        edge(33, "4 at most");
        // The HEAVY one for 0 and 1; 0 taken and given for 2; that taken.
        x = isle("p2 b1 t1 t1 h0");
        theftIs(x, 0, 0, 2);
        theftIs(x, 0, 1, 2);
        theftIs(x, 0, 2, 4);
        // Two gifts for 0 and 1, one of these taken and given for 2, that taken: 5.
        x = isle("p2 t1 t1 t1 t0 t0");
        theftIs(x, 0, 0, 2);
        theftIs(x, 0, 1, 3);
        theftIs(x, 0, 2, NONE);

        edge(33, "TAKES: LOAD within LIMIT");
        x = isle("p1 t0 t0 tz hz");
        theftIs(x, 0, 2, 1);
        theftIs(x, 0, 3, 2);
        x.step(2, 0);
        theftIs(x, 0, 3, 3);
        x = isle("p1 l0 e0 tz");
        theftIs(x, 0, 2, NONE);

        edge(33, "GIVES: as long as LOAD there would be above LIMIT");
        x = isle("p2 t0 t1 t1");
        theftIs(x, 0, 1, NONE);
        x.limit(2);
        theftIs(x, 0, 1, 2);
        x = isle("p2 h0 t1 t1 t1");
        theftIs(x, 0, 1, 2);
        theftIs(x, 0, 2, 2);
        // Now the HEAVY one is of the least number, and is dropped for whatever comes.
        theftIs(x, 0, 3, NONE);

        edge(33, "of the least number that is no LIVING");
        x = isle("p2 l1 t1 t1 t0");
        theftIs(x, 0, 0, NONE);
        theftIs(x, 0, 1, 2);
        theftIs(x, 0, 2, 4);

        edge(33, "(if there is none: it can't be given)");
        x = isle("p2 l1 l1 l1 t0 l0");
        for (int t = 0; t < 3; t++) theftIs(x, 0, t, NONE);
        // The HEAVY one would need room for two, and only one is no LIVING.
        x = isle("p2 l1 l1 t1 h0");
        theftIs(x, 0, 2, NONE);

        edge(33, "not in a BAG; what is in a BAG goes with it");
        x = isle("p2 t1 b1 l1 h0");
        x.step(0, 5);
        theftIs(x, 0, 0, 2);
        theftIs(x, 0, 1, 2);
        theftIs(x, 0, 2, NONE);
        x = isle("p1 tz bz");
        x.step(0, 5);
        theftIs(x, 0, 0, 1);
        theftAlone();
    }

    private static void theftAlone() {
        edge(33, "nothing in a BAG is touched");
        ThreeThings x = isle("p2 t1 t1 t1 b0 t0");
        // Two gifts, and 1 is taken.
        theftIs(x, 0, 1, 3);
        x.step(4, 5);
        // One gift, the BAG; 0 is taken, and given for 1.
        theftIs(x, 0, 0, 2);
        theftIs(x, 0, 1, 4);

        edge(33, "one alone");
        x = isle("p3 t0 t1 t2 tz");
        theftIs(x, 0, 1, NONE);
        theftIs(x, 1, 3, 1);

        edge(33, "BAD");
        for (int none : new int[] {-1, 3, 4, MIN, MAX}) {
            refused(x, "theft(" + none + ", 0)", BAD, y -> y.theft(none, 0));
        }
        for (int none : new int[] {-1, 4, 5, MIN, MAX}) {
            refused(x, "theft(0, " + none + ")", BAD, y -> y.theft(0, none));
        }
    }

    private static void thefts() {
        edge(34, "in k (0 .. 3) STEPS or fewer");
        ThreeThings x = isle("p1 t0 t0 t0 tz hz");
        int[] want = {7, 7, 15, 31};
        for (int k = 0; k < 4; k++) {
            final int steps = k;
            refused(x, "thefts(0, " + k + ")", want[k], y -> y.thefts(0, steps));
        }
        for (int none : new int[] {-1, 4, MIN, MAX}) refused(x, "thefts(0, " + none + ")", BAD, y -> y.thefts(0, none));
        x = isle("p2 t1 t1 t1 t0 t0");
        refused(x, "thefts(0, 2)", 25, y -> y.thefts(0, 2));
        refused(x, "thefts(0, 3)", 27, y -> y.thefts(0, 3));

        edge(34, "THINGS (bits): none; in BAGS, too");
        x = isle("p3 b0 t0 t1");
        refused(x, "thefts(2, 3)", 0, y -> y.thefts(2, 3));
        x.step(1, 5);
        refused(x, "thefts(0, 0)", 3, y -> y.thefts(0, 0));
        x.step(0, 4);
        refused(x, "thefts(2, 0)", 0, y -> y.thefts(2, 0));
        refused(x, "thefts(2, 1)", 3, y -> y.thefts(2, 1));
        refused(isle("p1"), "thefts(0, 3) without THINGS", 0, y -> y.thefts(0, 3));

        edge(34, "BAD: none of PEOPLE");
        for (int none : new int[] {-1, 3, 4, MIN, MAX}) {
            refused(x, "thefts(" + none + ", 0)", BAD, y -> y.thefts(none, 0));
        }
    }

    private static void dropped(String s, int limit, int want, int gift) {
        ThreeThings x = isle(s);
        if (limit != 3) x.limit(limit);
        long digest = x.digest();
        told("drops(0, 1) of '" + s + "' by LIMIT " + limit, x, x.drops(0, 1), want, gift);
        due("digest()", x.digest(), digest);
    }

    private static void drops() {
        edge(35, "THINGS that q drops (LOAD would be as LIMIT, 1 above it)");
        dropped("p2 t0 t1 t1", 3, 0, NONE);
        dropped("p2 t0 t1 t1 t1", 3, 2, 0);
        dropped("p2 t0 t1 t1 t1", 4, 0, NONE);
        dropped("p2 h0 t1", 3, 0, NONE);
        dropped("p2 h0 t1 t1", 3, 2, 0);
        dropped("p2 h0 t1 t1 t1", 3, 6, 0);
        dropped("p2 t0 h1 t1", 3, 2, 0);
        dropped("p2 h0 h1 t1", 3, 2, 0);
        dropped("p2 h0 t1 h1", 3, 6, 0);

        edge(35, "the most of these by one gift");
        dropped("p2 t0 h0 t1 t1 t1", 3, 12, 1);
        dropped("p2 h0 t0 t1 t1 t1", 3, 12, 0);

        edge(35, "(of alike ones the least THING)");
        dropped("p2 t0 t0 t0 h1 t1", 3, 8, 0);
        dropped("p2 h1 t1 t0 h0", 3, 1, 2);
        dropped("p2 h1 t1 h0 t0", 3, 1, 2);

        edge(35, "(NONE: by none; then 0)");
        dropped("p2 t1 t1 t1", 3, 0, NONE);
        dropped("p2", 3, 0, NONE);
        dropped("p2 t0 l1 l1 l1", 3, 0, NONE);
        dropped("p2 h0 l1 l1 t1", 3, 0, NONE);
        dropped("p2 h0 l1 e1", 3, 0, NONE);
        dropped("p2 t0 h0 l1 l1 t1", 3, 16, 0);
        dropped("p3 t0 t2 t2 t2", 3, 0, NONE);

        edge(35, "what is in a BAG is not dropped by itself, nor given");
        ThreeThings x = isle("p2 t1 b1 l1 h0");
        x.step(0, 5);
        told("the BAG with it", x, x.drops(0, 1), 2, 3);
        x = isle("p2 b0 t0 t1 t1 t1");
        told("either", x, x.drops(0, 1), 4, 0);
        x.step(1, 5);
        told("the BAG", x, x.drops(0, 1), 4, 0);
        x = isle("p2 t0 b0 t1 t1 t1");
        x.step(0, 5);
        told("the BAG, not the THING of less number in it", x, x.drops(0, 1), 4, 1);

        edge(35, "BAD: also alike");
        ThreeThings y = isle("p3 t0 t1");
        for (int p = 0; p < 3; p++) {
            final int one = p;
            refused(y, "drops(" + p + ", " + p + ")", BAD, z -> z.drops(one, one));
            refused(y, "beside(" + p + ", " + p + ")", BAD, z -> z.beside(one, one));
        }
        for (int none : new int[] {-1, 3, 4, MIN, MAX}) {
            refused(y, "drops(" + none + ", 0)", BAD, z -> z.drops(none, 0));
            refused(y, "drops(0, " + none + ")", BAD, z -> z.drops(0, none));
            refused(y, "beside(" + none + ", 0)", BAD, z -> z.beside(none, 0));
            refused(y, "beside(0, " + none + ")", BAD, z -> z.beside(0, none));
        }
        refused(isle("p1 t0"), "drops(0, 0) of one", BAD, z -> z.drops(0, 0));
    }

    private static void besideIs(String s, int want) {
        refused(isle(s), "beside(0, 1) of '" + s + "'", want, y -> y.beside(0, 1));
        refused(isle(s), "beside(1, 0) of '" + s + "'", want, y -> y.beside(1, 0));
    }

    private static void beside() {
        edge(36, "how many THINGS that some WORK of one wants another one has (none, all)");
        besideIs("p2 t0 t1", 0);
        besideIs("p2 t0 t1 w000:1 w111:1", 0);
        besideIs("p2 tz w000:1 w010:1", 0);
        besideIs("p2 t1 w000:1", 1);
        besideIs("p2 t0 t0 t1 t1 t1 w01012:1 w002340:1", 5);
        besideIs("p3 t2 t1 w000:1 w011:1", 0);

        edge(36, "some WORK: each THING once, in any HOUR");
        besideIs("p2 t1 w000:1 w000:2 w500:3", 1);
        besideIs("p2 t1 t1 w0001:1 w300:3", 2);

        edge(36, "another one has (in BAGS, too; whatever it counts)");
        ThreeThings x = isle("p2 b1 h1 w001:1");
        refused(x, "beside(0, 1)", 1, y -> y.beside(0, 1));
        x.step(1, 5);
        refused(x, "beside(0, 1), in a BAG", 1, y -> y.beside(0, 1));
        x.step(0, 4);
        refused(x, "beside(0, 1), the BAG left", 0, y -> y.beside(0, 1));
        x.step(0, 0);
        refused(x, "beside(0, 1), with 0 itself", 0, y -> y.beside(0, 1));

        edge(36, "some WORK: none is left of an ISLAND before");
        x = isle("p2 t1 w000:1");
        refused(x, "beside(0, 1)", 1, y -> y.beside(0, 1));
        write(x, 3, "p2 t1");
        x.island(3);
        refused(x, "beside(0, 1) of an ISLAND without WORKS", 0, y -> y.beside(0, 1));
    }

    private static void paired(String s, int want, int sum) {
        ThreeThings x = isle(s);
        x.thing(0, 2);
        long digest = x.digest();
        told("pair() of '" + s + "'", x, x.pair(), want, sum);
        due("digest()", x.digest(), digest);
    }

    private static void pair() {
        edge(37, "STATE: no PEOPLE");
        refused(new ThreeThings(), "pair() of nobody", STATE, ThreeThings::pair);

        edge(37, "of one: none; 0");
        paired("p1 t0 tz w000:1", NONE, 0);

        edge(37, "of two");
        paired("p2 t0 t1", 1, 0);
        paired("p2 t0 t1 w001:1 w010:1", 1, 2);

        edge(37, "of three one is left over");
        paired("p3 t0 t1 t2 w001:1", 1, 1);
        paired("p3 t0 t1 t2 w002:1", 2, 1);
        paired("p3 t0 t1 t2 w012:1", NONE, 1);
        paired("p3 t0 t1 t1 w0212:1 w001:1", NONE, 2);

        edge(37, "(of alike ones the least, NONE last)");
        paired("p3 t0 t1 t2", 1, 0);
        paired("p3 t0 t1 t2 w0012:1", 1, 1);
        paired("p3 t0 t1 t2 w002:1 w012:1", 2, 1);
        paired("p3 t0 t1 t2 w001:1 w012:1", 1, 1);
        paired("p3 t0 t1 t2 w00012:1 w012:1", 1, 1);

        edge(37, "of four: three ways");
        paired("p4 t0 t1 t2 t3", 1, 0);
        paired("p4 t0 t1 t2 t3 w001:1", 1, 1);
        paired("p4 t0 t1 t2 t3 w023:1", 1, 1);
        paired("p4 t0 t1 t2 t3 w002:1", 2, 1);
        paired("p4 t0 t1 t2 t3 w013:1", 2, 1);
        paired("p4 t0 t1 t2 t3 w003:1", 3, 1);
        paired("p4 t0 t1 t2 t3 w012:1", 3, 1);
        paired("p4 t0 t1 t2 t3 w003:1 w012:1 w001:1", 3, 2);
        paired("p4 t0 t1 t2 t3 w002:1 w013:1 w003:1 w012:1", 2, 2);
        paired("p4 t0 t1 t2 t3 w00123:1", 1, 1);
    }

    private static void saw() {
        edge(38, "its number (0 .. 7); FULL: 8");
        ThreeThings x = isle("p1 t0 w000:1 w000:2");
        for (int i = 0; i < 8; i++) due("saw() as number " + i, x.saw(i % 2, i / 2 % 2), i);
        refused(x, "saw(0, 0), the ninth", FULL, y -> y.saw(0, 0));
        refused(x, "saw(1, 1), the ninth", FULL, y -> y.saw(1, 1));
        x.forget(7);
        due("saw(0, 0), the eighth anew", x.saw(0, 0), 7);

        edge(38, "BAD comes ahead of FULL");
        refused(x, "saw(2, 0) behind 8", BAD, y -> y.saw(2, 0));
        refused(x, "saw(0, 2) behind 8", BAD, y -> y.saw(0, 2));

        edge(38, "(1) or not (0); BAD");
        x = isle("p1 t0 w000:1 w000:2");
        for (int none : new int[] {-1, 2, MIN, MAX}) {
            refused(x, "saw(" + none + ", 0)", BAD, y -> y.saw(none, 0));
            refused(x, "saw(0, " + none + ")", BAD, y -> y.saw(0, none));
        }
        due("saw(1, 1), the first still", x.saw(1, 1), 0);
        refused(isle("p1 t0"), "saw(0, 0) without WORKS", BAD, y -> y.saw(0, 0));

        edge(38, "a WORK may be SEEN as it is not now, and twice");
        x = isle("p1 tz w000:1");
        due("saw(0, 1)", x.saw(0, 1), 0);
        due("saw(0, 1) again", x.saw(0, 1), 1);
        due("saw(0, 0)", x.saw(0, 0), 2);
    }

    private static void forget() {
        edge(39, "n 0 to how many there are: then 0");
        ThreeThings x = isle("p1 t0 w000:1");
        due("forget(0) of none", x.forget(0), 0);
        refused(x, "forget(1) of none", BAD, y -> y.forget(1));
        for (int i = 0; i < 8; i++) x.saw(0, i % 2);
        refused(x, "forget(8) of 8", 0, y -> y.forget(8));
        for (int none : new int[] {9, -1, MIN, MAX}) refused(x, "forget(" + none + ")", BAD, y -> y.forget(none));
        due("forget(7), the last", x.forget(7), 1);
        due("count(5)", x.count(5), 7);
        due("forget(0), all", x.forget(0), 7);
        due("count(5)", x.count(5), 0);

        edge(39, "what was SEEN ahead stays");
        x = isle("p1 tz tz w000:1 w001:1");
        x.saw(0, 0);
        x.saw(1, 0);
        x.saw(0, 1);
        due("forget(1)", x.forget(1), 2);
        told("drowned() by the first alone", x, x.drowned(), 2, 1);
    }

    private static void drownedIs(ThreeThings x, int limit, int want, int inAll) {
        x.limit(limit);
        told("drowned() by LIMIT " + limit, x, x.drowned(), want, inAll);
    }

    private static void drowned() {
        edge(40, "sets of THINGS (whatever they count together within LIMIT)");
        ThreeThings x = isle("p1 tz tz tz tz tz");
        // Of five none, one, .. up to LIMIT: 1, 5, 10, 10, 5, 1.
        int[] want = {6, 16, 26, 31, 32, 32};
        for (int v = 1; v <= 6; v++) drownedIs(x, v, want[v - 1], 0);
        x = isle("p1 hz tz hz");
        int[] heavy = {2, 4, 6, 7, 8, 8};
        for (int v = 1; v <= 6; v++) drownedIs(x, v, heavy[v - 1], 0);

        edge(40, "the drowned can have had what others have, BAGS and LIVING ones, each by what it counts");
        x = isle("p2 b0 l0 e1 s1 t0");
        // 1 1 2 1 1 within 3: 16 sets without the BEAST but all four of them, and with it none or one of four.
        told("drowned()", x, x.drowned(), 20, 0);

        edge(40, "each WORK that was SEEN done wants none of them");
        x = isle("p1 tz tz tz w0001:1 w002:1");
        x.saw(0, 1);
        told("without 0, 1", x, x.drowned(), 2, 0);
        x.saw(1, 1);
        told("nothing", x, x.drowned(), 1, 0);

        edge(40, "each that was SEEN not done at least one");
        x = isle("p1 tz tz tz w0001:1 w002:1");
        x.saw(0, 0);
        told("0, 1 or both", x, x.drowned(), 6, 0);
        x.saw(1, 0);
        told("and 2", x, x.drowned(), 3, 4);
        x.limit(1);
        told("and 2, of one", x, x.drowned(), 0, 0);
        x.limit(2);
        told("and 2, of two", x, x.drowned(), 2, 4);

        edge(40, "(0, if there is none)");
        x = isle("p1 tz w000:1");
        x.saw(0, 0);
        told("one set", x, x.drowned(), 1, 1);
        x.saw(0, 1);
        told("none", x, x.drowned(), 0, 0);

        edge(40, "(others are not asked)");
        x = isle("p1 tz tz w000:1 w001:1");
        x.saw(1, 1);
        told("WORK 0 is not asked", x, x.drowned(), 2, 0);

        edge(40, "of no THINGS; of nobody");
        x = isle("p3");
        told("drowned()", x, x.drowned(), 1, 0);
        ThreeThings nobody = new ThreeThings();
        told("drowned() of nobody", nobody, nobody.drowned(), 1, 0);

        edge(40, "all 8 are asked");
        x = isle("p1 tz tz tz w000:1 w001:1");
        for (int i = 0; i < 7; i++) x.saw(0, 0);
        told("seven", x, x.drowned(), 4, 1);
        x.saw(1, 0);
        told("eight", x, x.drowned(), 2, 3);
    }

    private static void oddsAre(ThreeThings x, int t, int want, int upper, int lower) {
        due("odds(" + t + ")", x.odds(t), want);
        due("upper() behind odds(" + t + ")", x.upper(), upper);
        due("lower() behind odds(" + t + ")", x.lower(), lower);
    }

    private static void odds() {
        edge(41, "In how many of these sets a THING is, by all (none, half of them, all)");
        ThreeThings x = isle("p1 tz tz tz w000:1 w001:1");
        oddsAre(x, 2, 4, 1, 2);
        x.saw(0, 0);
        x.saw(1, 1);
        oddsAre(x, 0, 2, 1, 1);
        oddsAre(x, 1, 0, 0, 1);
        oddsAre(x, 2, 1, 1, 2);

        edge(41, "in lowest terms");
        x = isle("p1 tz tz tz tz tz");
        // 26 sets of up to three: each THING in 1 + 4 + 6.
        oddsAre(x, 4, 11, 11, 26);
        x.limit(2);
        oddsAre(x, 0, 5, 5, 16);
        x.limit(4);
        // 31 sets, each THING in 15.
        oddsAre(x, 0, 15, 15, 31);
        x = isle("p1 hz tz tz");
        // 7 sets within 3: without 0 four, with it three.
        oddsAre(x, 0, 3, 3, 7);
        x.limit(2);
        // 5 sets: with 1 two.
        oddsAre(x, 1, 2, 2, 5);
        x = isle("p1 tz tz tz tz w00012:1");
        // 15 sets of up to three: 14 with 0, 1 or 2 but that of 3 alone, 13; each of these in 7.
        x.saw(0, 0);
        oddsAre(x, 0, 7, 7, 13);
        // With 3: that and one of three, or two of three: 6.
        oddsAre(x, 3, 6, 6, 13);
        x = isle("p1 tz tz tz w00012:1");
        x.saw(0, 0);
        oddsAre(x, 0, 4, 4, 7);
        x.limit(2);
        // Three of one, three of two: each in three of six.
        oddsAre(x, 0, 3, 1, 2);

        edge(41, "NOUGHT: there is none (all stays)");
        x = isle("p1 tz tz w000:1");
        oddsAre(x, 1, 2, 1, 2);
        x.saw(0, 0);
        x.saw(0, 1);
        finds(x, "odds(0)", NOUGHT, y -> y.odds(0));
        finds(x, "odds(1)", NOUGHT, y -> y.odds(1));

        edge(41, "BAD, ahead of NOUGHT");
        for (int none : new int[] {-1, 2, MIN, MAX}) refused(x, "odds(" + none + ")", BAD, y -> y.odds(none));
    }

    private static void image() {
        edge(42, "where all THINGS are (0 .. 6) and LIMIT: how many numbers (1, 6)");
        ThreeThings x = new ThreeThings();
        due("image(0) of nobody", x.image(0), 1);
        rowIs(x, 0, 3);
        x = isle("p1");
        x.limit(6);
        due("image(5) without THINGS", x.image(5), 1);
        rowIs(x, 5, 6);
        x = isle("p4 t3 b0 s1 t0 t1");
        x.step(3, 5);
        x.step(4, 6);
        x.limit(1);
        due("image(0)", x.image(0), 6);
        rowIs(x, 0, 3, 0, 1, 5, 6, 1);

        edge(42, "comes to a ROW (anew)");
        rowOf(x, 1, of(60, 9));
        due("image(1)", x.image(1), 6);
        rowIs(x, 1, 3, 0, 1, 5, 6, 1);
        due("count(3) stays", x.count(3), 0);

        edge(42, "BAD");
        refused(x, "image(6)", BAD, y -> y.image(6));
        refused(x, "image(-1)", BAD, y -> y.image(-1));
    }

    private static void cantGo(String s, int... v) {
        ThreeThings x = isle(s);
        x.step(0, 4);
        rowOf(x, 0, v);
        finds(x, "gone() to " + Arrays.toString(v) + " of '" + s + "'", UNLIKE, y -> y.gone(0));
    }

    private static void canGo(String s, int... v) {
        ThreeThings x = isle(s);
        x.step(0, 4);
        rowOf(x, 0, v);
        due("gone() to " + Arrays.toString(v) + " of '" + s + "'", x.gone(0), 1);
        stands(x, v);
        due("count(3)", x.count(3), 0);
    }

    private static void gone() {
        edge(43, "UNLIKE: a number (where: none of PEOPLE, BEACH, BAGS that there are)");
        for (int v = 0; v <= 6; v++) {
            if (v == 0 || v == 4 || v == 5) canGo("p1 t0 b0", v, 0, 3);
            else cantGo("p1 t0 b0", v, 0, 3);
            if (v == 4 || v < 3) canGo("p3 t0", v, 3);
            else cantGo("p3 t0", v, 3);
        }
        for (int v : new int[] {-1, 7, MIN, MAX}) cantGo("p4 t0 b0 s0", v, 0, 0, 3);
        canGo("p4 t0 b0 s0", 6, 3, 4, 3);

        edge(43, "UNLIKE: a number (LIMIT 1 .. 6)");
        for (int v = 1; v <= 6; v++) canGo("p1 t0", 0, v);
        for (int v : new int[] {0, 7, -1, MIN, MAX}) cantGo("p1 t0", 0, v);

        edge(43, "it can't be so: LIVING ones lie not on the BEACH, nor in BAGS");
        cantGo("p1 t0 l0 b0", 0, 4, 0, 3);
        cantGo("p1 t0 l0 b0", 0, 5, 0, 3);
        cantGo("p1 t0 e0", 0, 4, 3);
        cantGo("p1 b0 e0", 0, 5, 3);
        canGo("p2 t0 e0", 0, 1, 3);

        edge(43, "it can't be so: no BAG, SACK lies in another one (nor in itself)");
        cantGo("p1 b0 s0", 6, 0, 3);
        cantGo("p1 b0 s0", 0, 5, 3);
        cantGo("p1 b0 s0", 5, 0, 3);
        cantGo("p1 b0 s0", 0, 6, 3);
        cantGo("p1 b0 s0", 6, 5, 3);
        canGo("p1 b0 s0", 4, 4, 3);

        edge(43, "it can't be so: more than a BAG, a SACK holds");
        canGo("p1 b0 t0 tz", 0, 5, 4, 3);
        cantGo("p1 b0 t0 tz", 0, 5, 5, 3);
        canGo("p1 s0 t0 tz tz", 0, 5, 5, 4, 3);
        cantGo("p1 s0 t0 tz tz", 0, 5, 5, 5, 3);
        canGo("p1 s0 b0 tz tz hz", 4, 4, 5, 6, 5, 3);
        cantGo("p1 s0 b0 tz tz hz", 4, 4, 6, 6, 5, 3);

        edge(43, "it can't be so: LOAD above LIMIT");
        canGo("p2 t0 h0", 1, 1, 3);
        cantGo("p2 t0 h0", 1, 1, 2);
        canGo("p2 t0 h0", 0, 1, 2);
        cantGo("p2 t0 h0", 0, 1, 1);
        canGo("p2 t0 h0", 0, 4, 1);
        canGo("p2 b0 h0", 1, 5, 1);
        canGo("p1 hz hz hz", 0, 0, 0, 6);
        cantGo("p1 hz hz hz", 0, 0, 0, 5);
        cantGo("p1 hz hz hz tz", 0, 0, 0, 0, 6);
        goneElse();
    }

    private static void goneElse() {
        edge(43, "whether or not STEPS lead there");
        ThreeThings x = isle("p2 e0 e1");
        rowOf(x, 0, 1, 0, 3);
        due("gone() where neither can go first", x.gone(0), 1);
        stands(x, 1, 0, 3);

        edge(43, "SIZE: not as many as THINGS and LIMIT");
        x = isle("p1 t0 tz");
        for (int n : new int[] {0, 1, 2, 4, 60}) {
            x.row(0, n);
            finds(x, "gone() by " + n, SIZE, y -> y.gone(0));
        }
        rowOf(x, 0, 4, 4, 1);
        due("gone() by 3", x.gone(0), 1);
        ThreeThings nobody = new ThreeThings();
        nobody.row(0, 0);
        finds(nobody, "gone() of nobody by none", SIZE, y -> y.gone(0));
        rowOf(nobody, 0, 6);
        due("gone() of nobody", nobody.gone(0), 1);
        due("limit(1), what it was", nobody.limit(1), 6);

        edge(43, "All is as an image tells: one that was taken before");
        x = isle("p2 b0 t0 t1");
        x.step(1, 5);
        x.image(2);
        x.limit(6);
        x.step(0, 1);
        x.keep(0);
        due("gone(2)", x.gone(2), 1);
        stands(x, 0, 5, 1, 3);
        due("count(3)", x.count(3), 0);
        refused(x, "undo(1)", BAD, y -> y.undo(1));
        x.on(0);
        stands(x, 1, 5, 1, 6);

        edge(43, "a refused one leaves the STEPS that are done");
        x = isle("p1 t0");
        x.step(0, 4);
        rowOf(x, 0, 0, 7);
        finds(x, "gone() to LIMIT 7", UNLIKE, y -> y.gone(0));
        due("undo(0)", x.undo(0), 1);

        edge(43, "BAD, NOTHING, SIZE, UNLIKE: the first that fits");
        refused(x, "gone(6)", BAD, y -> y.gone(6));
        finds(x, "gone(1)", NOTHING, y -> y.gone(1));
        rowOf(x, 0, 9, 9, 9);
        finds(x, "gone() by three that are none", SIZE, y -> y.gone(0));
    }

    // ---- 5 what is told

    private static void asked() {
        edge(44, "0 before");
        ThreeThings x = new ThreeThings();
        x.row(0, 0);
        x.mean(0);
        x.at(0, 0);
        x.thing(0, 0);
        due("asked() behind refusals alone", x.asked(), 0);

        edge(44, "what the latest of these told");
        x = isle("p2 t0 h1 w000:4 w011:5");
        rowOf(x, 0, 7, 8);
        told("lay()", x, x.lay(0, 0, 9), 1, 7);
        told("at()", x, x.at(0, 1), 1, 8);
        rowOf(x, 0, 10, 13);
        told("mean()", x, x.mean(0), 1, 11);
        told("thing()", x, x.thing(1, 0), 1, 3);
        told("work()", x, x.work(0, 3), 1, 4);
        told("load()", x, x.load(1), 2, 2);
        told("steps()", x, x.steps(), 4, 1);
        told("can()", x, x.can(), 3, 9);
        rowOf(x, 1, 4, -1, -1, -1, -1, -1);
        told("day()", x, x.day(1), 2, 5);
        rowOf(x, 1, 4, 4);
        told("fewest()", x, x.fewest(1), 2, 1);
        told("all()", x, x.all(), 9, 2);
        told("most()", x, x.most(0), 9, 9);
        told("drops()", x, x.drops(0, 1), 0, NONE);
        told("pair()", x, x.pair(), 1, 0);
        told("drowned()", x, x.drowned(), 4, 0);

        edge(44, "those that answer else tell nothing by it");
        x = isle("p2 t0 h1 w000:4 w011:5");
        x.thing(1, 0);
        rowOf(x, 0);
        Call[] calls = {y -> y.row(1, 5), y -> y.copy(0, 0, 1, 0, 0), y -> y.tear(1), y -> y.text(0, 3),
            y -> y.put(0, 0, 7), y -> y.fault(0), y -> y.mark(1, 3), y -> y.limit(4), y -> y.may(0, 1),
            y -> y.step(0, 1), y -> y.undo(0), y -> y.does(0), y -> y.keep(0), y -> y.on(0), y -> y.till(0),
            y -> y.hand(1), y -> y.creed(3, 1), y -> y.theft(0, 1), y -> y.thefts(0, 1), y -> y.beside(0, 1),
            y -> y.saw(0, 1), y -> y.odds(1), y -> y.forget(0), y -> y.image(2), y -> y.gone(2), y -> y.count(1),
            ThreeThings::finding, y -> y.findings(1), ThreeThings::digest, ThreeThings::upper, ThreeThings::lower,
            y -> y.island(3)};
        for (int i = 0; i < calls.length; i++) {
            calls[i].on(x);
            due("asked() behind call " + i + " of them", x.asked(), 3);
        }

        edge(44, "that was not refused (nor NONE)");
        x = isle("p2 t0 l1 w000:4");
        x.row(1, 0);
        rowOf(x, 0, -1, 4);
        x.thing(1, 0);
        Call[] refusals = {y -> y.lay(0, 2, 1), y -> y.at(0, 2), y -> y.mean(1), y -> y.thing(2, 0), y -> y.work(1, 0),
            y -> y.load(2), y -> y.day(0), y -> y.fewest(0), y -> y.fewest(1), y -> y.most(3), y -> y.drops(0, 0),
            y -> y.way(0, 1)};
        for (int i = 0; i < refusals.length; i++) {
            due("refusal " + i + " is below 0", refusals[i].on(x) < 0 ? 1 : 0, 1);
            due("asked() behind refusal " + i, x.asked(), 2);
        }
        due("steps() still, though asked() is NONE there", new ThreeThings().steps(), 0);
    }

    private static void fractions() {
        edge(45, "0 before");
        ThreeThings x = new ThreeThings();
        due("upper()", x.upper(), 0);
        x.odds(0);
        due("upper() behind BAD", x.upper(), 0);

        edge(46, "1 before");
        due("lower()", x.lower(), 1);

        edge(45, "that was told last (by odds() alone)");
        x = isle("p1 hz tz tz");
        oddsAre(x, 0, 3, 3, 7);
        rowOf(x, 0, 1, 2);
        x.mean(0);
        x.drowned();
        x.image(1);
        due("upper()", x.upper(), 3);
        oddsAre(x, 1, 3, 3, 7);
        x.limit(1);
        oddsAre(x, 0, 0, 0, 1);
        due("upper()", x.upper(), 0);

        edge(46, "the lower number above 0 (0 by 1)");
        due("lower()", x.lower(), 1);
        x.island(3);
        due("lower() behind another ISLAND", x.lower(), 1);
        x.odds(2);
        due("lower()", x.lower(), 7);
    }

    private static void count() {
        edge(47, "0 PEOPLE .. 7 TEXTS (none of each)");
        ThreeThings x = new ThreeThings();
        for (int i = 0; i < 8; i++) due("count(" + i + ")", x.count(i), 0);

        edge(47, "0 PEOPLE .. 7 TEXTS (the most of each)");
        x = isle("p4 b0 s0 tz t3 t2" + " w300:1".repeat(8));
        for (int i = 0; i < 40; i++) x.step(2, i % 2 == 0 ? 3 : 4);
        for (int i = 0; i < 8; i++) x.saw(i, 0);
        for (int r = 0; r < 6; r++) x.row(r, 60 * (r % 2));
        for (int t = 0; t < 4; t++) x.text(t, 100 * (t % 2));
        int[] want = {4, 5, 8, 40, 2, 8, 6, 4};
        for (int i = 0; i < 8; i++) due("count(" + i + ")", x.count(i), want[i]);

        edge(47, "BAD");
        for (int none : new int[] {-1, 8, MIN, MAX}) refused(x, "count(" + none + ")", BAD, y -> y.count(none));
    }

    private static void findings() {
        edge(48, "The latest FINDING (0 before any)");
        ThreeThings x = new ThreeThings();
        due("finding()", x.finding(), 0);
        x.row(6, 0);
        x.pair();
        due("finding() behind BAD and STATE", x.finding(), 0);
        x.at(0, 0);
        due("finding()", x.finding(), NOTHING);
        x.row(0, 0);
        due("finding() behind what was not refused", x.finding(), NOTHING);
        x.at(0, 0);
        due("finding()", x.finding(), BEYOND);
        x.gone(0);
        due("finding()", x.finding(), SIZE);
        x.mean(0);
        due("finding()", x.finding(), NOUGHT);
        rowOf(x, 0, 7);
        x.gone(0);
        due("finding()", x.finding(), UNLIKE);

        edge(49, "How often a FINDING was answered (0 before)");
        ThreeThings y = new ThreeThings();
        for (int f = 1; f <= 5; f++) due("findings(" + f + ")", y.findings(f), 0);

        edge(49, "How often a FINDING was answered");
        for (int f = 1; f <= 5; f++) due("findings(" + f + ")", x.findings(f), 1);
        for (int i = 0; i < 100; i++) x.tear(5);
        due("findings(1)", x.findings(1), 101);
        x.island(0);
        due("findings(1)", x.findings(1), 102);
        due("findings(2)", x.findings(2), 1);

        edge(49, "BAD");
        for (int none : new int[] {0, 6, -1, MIN, MAX}) refused(x, "findings(" + none + ")", BAD, z -> z.findings(none));
    }

    private static long mix(long h, int... v) {
        for (int i : v) h = 31 * h + i;
        return h;
    }

    private static void digest() {
        edge(50, "of nothing");
        long nothing = mix(17, 0, 0, 0, 0, 0, 0, 0, 0, 3, -1, -1, -1, -1, -1, -1, -1, -1, -1, -1, -1, -1, -1);
        due("digest()", new ThreeThings().digest(), nothing);

        edge(50, "of each ROW its size (-1: missing) and places, of each TEXT likewise (empty ones)");
        ThreeThings x = new ThreeThings();
        x.row(5, 0);
        x.text(0, 0);
        due("digest()", x.digest(), mix(17, 0, 0, 0, 0, 0, 0, 1, 1, 3, -1, -1, -1, -1, -1, -1, -1, -1, 0, 0, -1, -1,
            -1));

        edge(50, "of each ROW its places (full ones; it wraps around)");
        x = new ThreeThings();
        rowOf(x, 0, of(60, MIN));
        x.text(3, 100);
        x.put(3, 99, -1);
        long h = mix(17, 0, 0, 0, 0, 0, 0, 1, 1, 3, -1, -1, -1, 60);
        h = mix(mix(h, of(60, MIN)), -1, -1, -1, -1, -1, -1, -1, -1, 100);
        due("digest()", x.digest(), mix(mix(h, of(99, 32)), -1));

        edge(50, "of each kept place where all THINGS were then, LIMIT (-1 once: none)");
        x = isle("p1 t0 w200:3");
        x.tear(0);
        x.text(3, 0);
        x.keep(1);
        x.step(0, 4);
        x.saw(0, 1);
        x.thing(0, 0);
        due("digest()", x.digest(), mix(17, 1, 1, 1, 1, 0, 1, 0, 1, 3, 0, 4, 1, 4, 2, 0, 1, 3, 0, 1, -1, 0, 3, -1, -1,
            -1, -1, -1, -1, -1, -1, -1, -1, 0));

        edge(50, "asked() stays");
        due("asked()", x.asked(), 0);
        x.thing(0, 1);
        x.digest();
        due("asked()", x.asked(), 4);

        edge(50, "of each kept place: without THINGS its LIMIT alone");
        x = isle("p2");
        x.text(3, 0);
        for (int k = 0; k < 3; k++) {
            x.limit(6 - k);
            x.keep(k);
        }
        due("digest()", x.digest(), mix(17, 2, 0, 0, 0, 0, 0, 0, 1, 4, 6, 5, 4, -1, -1, -1, -1, -1, -1, -1, -1, -1,
            0));
    }

    public static void main(String[] args) {
        Runnable[] tests = {EdgesTest::newObject, EdgesTest::rowsFrom0To5, EdgesTest::row, EdgesTest::lay,
            EdgesTest::at, EdgesTest::tear, EdgesTest::copy, EdgesTest::mean, EdgesTest::textsFrom0To3,
            EdgesTest::text, EdgesTest::put, EdgesTest::faults, EdgesTest::island, EdgesTest::thing, EdgesTest::mark,
            EdgesTest::work, EdgesTest::load, EdgesTest::limit, EdgesTest::gives, EdgesTest::leavesAndTakes,
            EdgesTest::stows, EdgesTest::unpacks, EdgesTest::step, EdgesTest::may, EdgesTest::steps, EdgesTest::undo,
            EdgesTest::does, EdgesTest::keepAndOn, EdgesTest::can, EdgesTest::day, EdgesTest::fewest, EdgesTest::way,
            EdgesTest::all, EdgesTest::till, EdgesTest::most, EdgesTest::hand, EdgesTest::creed, EdgesTest::theft,
            EdgesTest::thefts, EdgesTest::drops, EdgesTest::beside, EdgesTest::pair, EdgesTest::saw,
            EdgesTest::forget, EdgesTest::drowned, EdgesTest::odds, EdgesTest::image, EdgesTest::gone,
            EdgesTest::asked, EdgesTest::fractions, EdgesTest::count, EdgesTest::findings, EdgesTest::digest};
        for (Runnable test : tests) test.run();
        int sum = 0;
        for (int p = 1; p <= 50; p++) {
            edge(p, "has a test");
            due("how many edges", edges[p] > 1 ? 1 : 0, 1);
            sum += edges[p] - 1;
        }
        System.out.println(wrong == 0 ? "all " + sum + " edges hold" : wrong + " answers are not as due");
        if (wrong != 0) System.exit(1);
    }
}
