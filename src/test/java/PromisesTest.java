import java.util.Arrays;

/** For each promise of the document calls with the answers that are due, worked out by hand from its words. */
public final class PromisesTest {
    private static final int BAD = -1, FULL = -2, FINDING = -3, STATE = -4, NONE = -9;
    private static final int NOTHING = 1, BEYOND = 2, UNLIKE = 3, NOUGHT = 4, SIZE = 5;
    /** THINGS 0 THING, 1 BAG (with 0), 2 HEAVY (with 1), 3 LIVING (with 2), 4 SACK (on the BEACH); three WORKS. */
    private static final String ISLAND = "p3 t0 b0 h1 l2 sz w000:3 w1123:5 w5204:9";

    private static int wrong = 0;
    private static String promise = "";

    private static void due(String call, long got, long want) {
        if (got == want) return;
        wrong++;
        System.out.println("promise " + promise + ": " + call + " answered " + got + ", due is " + want);
    }

    private static void told(ThreeThings x, String call, long got, long want, int asked) {
        due(call, got, want);
        due("asked() behind " + call, x.asked(), asked);
    }

    private static void found(ThreeThings x, String call, long got, int finding) {
        due(call, got, FINDING);
        due("finding() behind " + call, x.finding(), finding);
    }

    private static void write(ThreeThings x, int t, String s) {
        x.text(t, s.length());
        for (int i = 0; i < s.length(); i++) x.put(t, i, s.charAt(i));
    }

    private static ThreeThings isle(String s) {
        ThreeThings x = new ThreeThings();
        write(x, 3, s);
        if (x.island(3) < 0) due("island(" + s + ")", x.fault(3), NONE);
        return x;
    }

    private static void rowOf(ThreeThings x, int r, int... v) {
        x.row(r, v.length);
        for (int i = 0; i < v.length; i++) x.lay(r, i, v[i]);
    }

    private static void rowIs(ThreeThings x, int r, int... v) {
        for (int i = 0; i < v.length; i++) {
            due("at(" + r + ", " + i + ")", x.at(r, i), 1);
            due("asked() behind at(" + r + ", " + i + ")", x.asked(), v[i]);
        }
        due("at(" + r + ", its size)", x.at(r, v.length), FINDING);
    }

    /** Where all THINGS are, and LIMIT. */
    private static void stands(ThreeThings x, int... v) {
        due("image", x.image(5), v.length);
        rowIs(x, 5, v);
        x.tear(5);
    }

    private static void promise1() {
        ThreeThings x = new ThreeThings();
        for (int i = 0; i < 8; i++) due("count(" + i + ")", x.count(i), 0);
        for (int r = 0; r < 6; r++) found(x, "at(" + r + ", 0)", x.at(r, 0), NOTHING);
        for (int t = 0; t < 4; t++) found(x, "fault(" + t + ")", x.fault(t), NOTHING);
        due("limit(2)", x.limit(2), 3);
        due("load(0)", x.load(0), BAD);
        due("thing(0, 0)", x.thing(0, 0), BAD);
        due("work(0, 0)", x.work(0, 0), BAD);
    }

    private static void promise2() {
        ThreeThings x = new ThreeThings();
        due("row(0, 0)", x.row(0, 0), 0);
        due("row(5, 60)", x.row(5, 60), 60);
        due("row(1, 2)", x.row(1, 2), 2);
        rowIs(x, 1, 0, 0);
        x.lay(1, 0, 7);
        due("row(1, 61)", x.row(1, 61), BAD);
        found(x, "row(1, -1)", x.row(1, -1), SIZE);
        rowIs(x, 1, 7, 0);
        due("row(1, 3) anew", x.row(1, 3), 3);
        rowIs(x, 1, 0, 0, 0);
        due("row(-1, 0)", x.row(-1, 0), BAD);
        due("row(6, 0)", x.row(6, 0), BAD);
        due("row(6, -1)", x.row(6, -1), BAD);
        due("findings(5)", x.findings(SIZE), 1);
        due("count(6)", x.count(6), 3);
        due("row of the greatest", x.row(0, Integer.MAX_VALUE), BAD);
        found(x, "row of the least", x.row(0, Integer.MIN_VALUE), SIZE);
    }

    private static void promise3() {
        ThreeThings x = new ThreeThings();
        x.row(0, 2);
        told(x, "lay(0, 1, -5)", x.lay(0, 1, -5), 1, 0);
        told(x, "lay(0, 1, max)", x.lay(0, 1, Integer.MAX_VALUE), 1, -5);
        told(x, "lay(0, 1, 3)", x.lay(0, 1, 3), 1, Integer.MAX_VALUE);
        rowIs(x, 0, 0, 3);
        due("lay(-1, 0, 1)", x.lay(-1, 0, 1), BAD);
        due("lay(6, 0, 1)", x.lay(6, 0, 1), BAD);
        found(x, "lay(1, 0, 1)", x.lay(1, 0, 1), NOTHING);
        found(x, "lay(0, 2, 1)", x.lay(0, 2, 1), BEYOND);
        found(x, "lay(0, -1, 1)", x.lay(0, -1, 1), BEYOND);
        rowIs(x, 0, 0, 3);
    }

    private static void promise4() {
        ThreeThings x = new ThreeThings();
        rowOf(x, 2, 4, -9, 6);
        told(x, "at(2, 0)", x.at(2, 0), 1, 4);
        told(x, "at(2, 1)", x.at(2, 1), 1, -9);
        told(x, "at(2, 2)", x.at(2, 2), 1, 6);
        due("at(6, 0)", x.at(6, 0), BAD);
        due("at(-1, 0)", x.at(-1, 0), BAD);
        found(x, "at(3, 0)", x.at(3, 0), NOTHING);
        found(x, "at(2, 3)", x.at(2, 3), BEYOND);
        found(x, "at(2, -1)", x.at(2, -1), BEYOND);
        due("asked() stays", x.asked(), 6);
    }

    private static void promise5() {
        ThreeThings x = new ThreeThings();
        x.row(0, 0);
        due("tear(0)", x.tear(0), 1);
        found(x, "tear(0)", x.tear(0), NOTHING);
        found(x, "at(0, 0)", x.at(0, 0), NOTHING);
        due("count(6)", x.count(6), 0);
        due("tear(-1)", x.tear(-1), BAD);
        due("tear(6)", x.tear(6), BAD);
    }

    private static void promise6() {
        ThreeThings x = new ThreeThings();
        rowOf(x, 0, 1, 2, 3, 4, 5);
        due("copy(0, 0, 0, 1, 4)", x.copy(0, 0, 0, 1, 4), 1);
        rowIs(x, 0, 1, 1, 2, 3, 4);
        due("copy(0, 2, 0, 0, 3)", x.copy(0, 2, 0, 0, 3), 1);
        rowIs(x, 0, 2, 3, 4, 3, 4);
        rowOf(x, 1, 0, 0, 0);
        due("copy(0, 1, 1, 1, 2)", x.copy(0, 1, 1, 1, 2), 1);
        rowIs(x, 1, 0, 3, 4);
        due("copy(0, 5, 1, 3, 0)", x.copy(0, 5, 1, 3, 0), 1);
        found(x, "copy(0, 6, 1, 0, 0)", x.copy(0, 6, 1, 0, 0), BEYOND);
        found(x, "copy(0, 0, 1, 4, 0)", x.copy(0, 0, 1, 4, 0), BEYOND);
        found(x, "copy(0, -1, 1, 0, 0)", x.copy(0, -1, 1, 0, 0), BEYOND);
        found(x, "copy(0, 0, 1, -1, 0)", x.copy(0, 0, 1, -1, 0), BEYOND);
        found(x, "copy(0, 0, 1, 0, 4)", x.copy(0, 0, 1, 0, 4), BEYOND);
        found(x, "copy(1, 0, 0, 0, 4)", x.copy(1, 0, 0, 0, 4), BEYOND);
        found(x, "copy(0, max, 1, 0, max)", x.copy(0, Integer.MAX_VALUE, 1, 0, Integer.MAX_VALUE), BEYOND);
        found(x, "copy(0, 1, 1, 1, max)", x.copy(0, 1, 1, 1, Integer.MAX_VALUE), BEYOND);
        found(x, "copy(0, 0, 2, 0, 0)", x.copy(0, 0, 2, 0, 0), NOTHING);
        found(x, "copy(2, 9, 0, 0, 0)", x.copy(2, 9, 0, 0, 0), NOTHING);
        found(x, "copy(2, 9, 2, 0, -1)", x.copy(2, 9, 2, 0, -1), SIZE);
        due("copy(6, 0, 0, 0, -1)", x.copy(6, 0, 0, 0, -1), BAD);
        due("copy(0, 0, -1, 0, -1)", x.copy(0, 0, -1, 0, -1), BAD);
        rowIs(x, 0, 2, 3, 4, 3, 4);
        rowIs(x, 1, 0, 3, 4);
    }

    private static void promise7() {
        ThreeThings x = new ThreeThings();
        rowOf(x, 0, 1, 2, 4);
        told(x, "mean of 1 2 4", x.mean(0), 1, 2);
        rowOf(x, 0, -1, -2, -4);
        told(x, "mean of -1 -2 -4", x.mean(0), 1, -2);
        int max = Integer.MAX_VALUE;
        rowOf(x, 0, max, max, max);
        told(x, "mean of the greatest", x.mean(0), 1, max);
        rowOf(x, 0, Integer.MIN_VALUE, Integer.MIN_VALUE);
        told(x, "mean of the least", x.mean(0), 1, Integer.MIN_VALUE);
        x.row(1, 0);
        found(x, "mean(1)", x.mean(1), NOUGHT);
        found(x, "mean(2)", x.mean(2), NOTHING);
        due("mean(6)", x.mean(6), BAD);
        due("mean(-1)", x.mean(-1), BAD);
    }

    private static void promise8() {
        ThreeThings x = new ThreeThings();
        due("text(0, 0)", x.text(0, 0), 0);
        due("text(3, 100)", x.text(3, 100), 100);
        due("put(3, 99, 1)", x.put(3, 99, 1), 1032);
        due("text(3, 100) anew", x.text(3, 100), 100);
        due("put(3, 99, 1)", x.put(3, 99, 1), 1032);
        due("text(0, 101)", x.text(0, 101), BAD);
        due("text(4, 0)", x.text(4, 0), BAD);
        due("text(-1, 0)", x.text(-1, 0), BAD);
        due("text(4, -1)", x.text(4, -1), BAD);
        found(x, "text(0, -1)", x.text(0, -1), SIZE);
        due("count(7)", x.count(7), 2);
    }

    private static void promise9() {
        ThreeThings x = new ThreeThings();
        x.text(0, 2);
        due("put(0, 0, 127)", x.put(0, 0, 127), 1032);
        due("put(0, 0, 128)", x.put(0, 0, 128), 1127);
        due("put(0, 0, 511)", x.put(0, 0, 511), 872);
        due("put(0, 0, -300)", x.put(0, 0, -300), 999);
        due("put(0, 0, 0)", x.put(0, 0, 0), 956);
        due("put(0, 1, 0)", x.put(0, 1, 0), 1032);
        due("put(4, 0, 0)", x.put(4, 0, 0), BAD);
        due("put(-1, 0, 0)", x.put(-1, 0, 0), BAD);
        found(x, "put(1, 0, 0)", x.put(1, 0, 0), NOTHING);
        found(x, "put(0, 2, 0)", x.put(0, 2, 0), BEYOND);
        found(x, "put(0, -1, 0)", x.put(0, -1, 0), BEYOND);
    }

    private static void faultOf(String s, int want) {
        ThreeThings x = new ThreeThings();
        write(x, 0, s);
        due("fault of '" + s + "'", x.fault(0), want);
        due("island of '" + s + "'", x.island(0) < 0 ? STATE : 0, want == NONE ? 0 : STATE);
    }

    private static void promise10() {
        String[] fine = {"p1", "  p4  ", "p1t0", ISLAND, "p2t0b1sz l0 e1", "p1 hztztztztz", "p4 t3 w530:9",
            "p1tzw000:1w000:1w000:1w000:1w000:1w000:1w000:1w000:1", "p1 tztztztztz w0043210:1", "p2 h0t0 e1l1"};
        for (String s : fine) faultOf(s, NONE);
        faultOf("", 0);
        faultOf("    ", 4);
        faultOf("p", 1);
        faultOf("q1", 0);
        faultOf(" w000:1", 1);
        faultOf("p0", 1);
        faultOf("p5", 1);
        faultOf("p 1", 1);
        faultOf("p12", 2);
        faultOf("p1p1", 2);
        faultOf("p1 x0", 3);
        faultOf("p1 T0", 3);
        faultOf("p1 t", 4);
        faultOf("p1 t 0", 4);
        faultOf("p1 t1", 4);
        faultOf("p1 ty", 4);
        faultOf("p1 lz", 4);
        faultOf("p1 ez", 4);
        faultOf("p1tztztztztztz", 12);
        faultOf("p1bzszbz", 6);
        faultOf("p1bzbzsz", 6);
        faultOf("p1t0t0t0t0", 9);
        faultOf("p1h0e0", 5);
        faultOf("p1e0b0s0", 7);
        faultOf("p1tzw000:1t0", 10);
        faultOf("p1tz w", 6);
        faultOf("p1tz w 0", 6);
        faultOf("p1tz w6", 6);
        faultOf("p1tz w01", 7);
        faultOf("p1tztzw01:1", 8);
        faultOf("p1tz w001", 8);
        faultOf("p1w000:1", 5);
        faultOf("p1tz w000", 9);
        faultOf("p1tz w0000:1", 9);
        faultOf("p1tz w00:1", 8);
        faultOf("p1tz w000 :1", 9);
        faultOf("p1tz w000: 1", 10);
        faultOf("p1tz w000:", 10);
        faultOf("p1tz w000:0", 10);
        faultOf("p1tz w000:12", 11);
        faultOf("p1tzw000:1w000:1w000:1w000:1w000:1w000:1w000:1w000:1w000:1", 52);
        ThreeThings x = new ThreeThings();
        due("fault(-1)", x.fault(-1), BAD);
        due("fault(4)", x.fault(4), BAD);
        found(x, "fault(0)", x.fault(0), NOTHING);
        write(x, 0, "p1");
        x.put(0, 1, 49 - 256);
        due("fault of a byte cut", x.fault(0), NONE);
        x.put(0, 1, -49);
        due("fault of a byte below 0", x.fault(0), 1);
        write(x, 0, "p1" + " ".repeat(98));
        due("fault of 100 signs", x.fault(0), NONE);
    }

    private static void promise11() {
        ThreeThings x = isle(ISLAND);
        due("count(0)", x.count(0), 3);
        due("count(1)", x.count(1), 5);
        due("count(2)", x.count(2), 3);
        stands(x, 0, 0, 1, 2, 4, 3);
        x.limit(5);
        x.step(0, 4);
        x.keep(1);
        x.saw(0, 1);
        long before = x.digest();
        write(x, 0, "p2 t0 q");
        due("island of a FAULT", x.island(0), STATE);
        found(x, "island(1)", x.island(1), NOTHING);
        due("island(4)", x.island(4), BAD);
        due("island(-1)", x.island(-1), BAD);
        x.text(0, 0);
        due("island of nothing", x.island(0), STATE);
        due("count(3) stays", x.count(3), 1);
        write(x, 0, "p2 t1");
        due("island anew", x.island(0), 1);
        stands(x, 1, 3);
        due("count(2)", x.count(2), 0);
        due("count(3)", x.count(3), 0);
        due("count(4)", x.count(4), 0);
        due("count(5)", x.count(5), 0);
        for (int k = 0; k < 3; k++) found(x, "on(" + k + ")", x.on(k), NOTHING);
        due("digest() is another one", before == x.digest() ? 1 : 0, 0);
        write(x, 0, "p4");
        due("island without THINGS", x.island(0), 0);
        due("steps() there", x.steps(), 0);
    }

    private static void promise12() {
        ThreeThings x = isle("p2 t0 b0 l1 e1 sz");
        int[][] want = {{0, 0, 1, 0}, {1, 0, 1, 0}, {2, 1, 1, 1}, {5, 1, 2, 1}, {4, 4, 1, 4}};
        for (int t = 0; t < 5; t++) {
            for (int what = 0; what < 4; what++) told(x, "thing " + t + " " + what, x.thing(t, what), 1, want[t][what]);
        }
        x.step(0, 5);
        told(x, "where in a BAG", x.thing(0, 1), 1, 5);
        told(x, "with whom in a BAG", x.thing(0, 3), 1, 0);
        x.step(1, 4);
        told(x, "with whom in a BAG on the BEACH", x.thing(0, 3), 1, 4);
        due("thing(-1, 0)", x.thing(-1, 0), BAD);
        due("thing(5, 0)", x.thing(5, 0), BAD);
        due("thing(0, -1)", x.thing(0, -1), BAD);
        due("thing(0, 4)", x.thing(0, 4), BAD);
        due("asked() stays", x.asked(), 4);
        x = isle("p1 h0");
        told(x, "KIND of a HEAVY one", x.thing(0, 0), 1, 3);
        told(x, "what it counts", x.thing(0, 2), 1, 2);
    }

    private static void promise13() {
        ThreeThings x = isle("p2 s0 t0 t0 b1 e1 w011:1 w0114:2 w014:3");
        due("SACK as a BAG", x.mark(0, 1), 0);
        due("SACK empty", x.mark(0, 4), 2);
        x.step(1, 5);
        due("SACK as a BAG of one", x.mark(0, 1), 1);
        due("SACK of one", x.mark(0, 4), 1);
        x.step(2, 5);
        due("SACK as a BAG of two", x.mark(0, 1), 2);
        due("SACK of two", x.mark(0, 4), 0);
        due("BAG empty", x.mark(3, 1), 0);
        due("BEAST as a LIVING one", x.mark(4, 2), 3);
        due("BEAST beside a BAG", x.mark(4, 5), 1);
        x.step(3, 4);
        x.step(0, 1);
        due("BEAST beside a SACK of two", x.mark(4, 5), 3);
        due("LOAD with a SACK", x.mark(4, 2), 3);
        found(x, "THING as a BAG", x.mark(1, 1), UNLIKE);
        found(x, "THING as a LIVING one", x.mark(1, 2), UNLIKE);
        found(x, "BEAST as a HEAVY one", x.mark(4, 3), UNLIKE);
        found(x, "BAG as a SACK", x.mark(3, 4), UNLIKE);
        found(x, "SACK as a BEAST", x.mark(0, 5), UNLIKE);
        due("KIND 0", x.mark(1, 0), BAD);
        due("KIND 6", x.mark(1, 6), BAD);
        due("KIND -1", x.mark(1, -1), BAD);
        due("THING 5", x.mark(5, 1), BAD);
        due("THING -1", x.mark(-1, 1), BAD);
        x = isle("p2 h0 l1 h1 t0 w000:1 w0130:2 w502:3");
        due("HEAVY in two WORKS", x.mark(0, 3), 2);
        due("HEAVY in one", x.mark(2, 3), 1);
        due("LIVING one", x.mark(1, 2), 3);
        found(x, "LIVING as a BEAST", x.mark(1, 5), UNLIKE);
        found(x, "HEAVY as a BAG", x.mark(0, 1), UNLIKE);
        x = isle("p1 b0 tz");
        x.step(1, 0);
        x.step(1, 5);
        due("BAG of one", x.mark(0, 1), 1);
    }

    private static void promise14() {
        ThreeThings x = isle(ISLAND);
        int[][] want = {{0, 0, 1, 3}, {1, 1, 12, 5}, {5, 2, 17, 9}};
        for (int w = 0; w < 3; w++) {
            for (int what = 0; what < 4; what++) told(x, "work " + w + " " + what, x.work(w, what), 1, want[w][what]);
        }
        due("work(3, 0)", x.work(3, 0), BAD);
        due("work(-1, 0)", x.work(-1, 0), BAD);
        due("work(0, 4)", x.work(0, 4), BAD);
        due("work(0, -1)", x.work(0, -1), BAD);
        due("asked() stays", x.asked(), 9);
    }

    private static void promise15() {
        ThreeThings x = isle(ISLAND);
        told(x, "load(0)", x.load(0), 2, 3);
        told(x, "load(1)", x.load(1), 2, 4);
        told(x, "load(2)", x.load(2), 1, 8);
        x.step(0, 5);
        told(x, "load(0), one in a BAG", x.load(0), 1, 3);
        x.step(1, 2);
        told(x, "load(2), one in a BAG", x.load(2), 2, 11);
        told(x, "load(0) of nothing", x.load(0), 0, 0);
        due("load(3)", x.load(3), BAD);
        due("load(-1)", x.load(-1), BAD);
        due("load(4)", x.load(4), BAD);
    }

    private static void promise16() {
        ThreeThings x = isle(ISLAND);
        x.step(0, 5);
        due("limit(2)", x.limit(2), 3);
        due("count(3)", x.count(3), 0);
        due("undo(1)", x.undo(1), BAD);
        due("limit(1)", x.limit(1), STATE);
        due("limit(0)", x.limit(0), BAD);
        due("limit(7)", x.limit(7), BAD);
        due("limit(6)", x.limit(6), 2);
        due("limit(6) again", x.limit(6), 6);
        x.step(2, 0);
        due("limit(6) with a STEP done", x.limit(6), 6);
        due("count(3)", x.count(3), 0);
        due("limit(2) where one has 3", x.limit(2), STATE);
        due("limit(3)", x.limit(3), 6);
        x = isle("p4 tz tz hz t3");
        due("limit(1), more on the BEACH", x.limit(1), 3);
    }

    private static void promise17() {
        ThreeThings x = isle(ISLAND);
        due("to where it is", x.step(0, 0), STATE);
        due("GIVE above LIMIT", x.step(2, 0), STATE);
        due("LEAVE a LIVING one", x.step(3, 4), STATE);
        due("STOW a LIVING one", x.step(3, 5), STATE);
        due("STOW a BAG into itself", x.step(1, 5), STATE);
        due("STOW a SACK", x.step(4, 5), STATE);
        due("STOW into what another one has", x.step(2, 5), STATE);
        due("STOW into what lies on the BEACH", x.step(0, 6), STATE);
        due("GIVE", x.step(2, 2), 1);
        stands(x, 0, 0, 2, 2, 4, 3);
        due("TAKE above LIMIT", x.step(4, 2), STATE);
        due("TAKE", x.step(4, 0), 1);
        due("STOW a BAG into a SACK", x.step(1, 6), STATE);
        due("STOW", x.step(0, 5), 1);
        due("LEAVE a full BAG", x.step(1, 4), 1);
        stands(x, 5, 4, 2, 2, 0, 3);
        due("out of a BAG elsewhere", x.step(0, 0), STATE);
        due("out of a BAG into a SACK", x.step(0, 6), STATE);
        due("UNPACK on the BEACH", x.step(0, 4), 1);
        due("LEAVE a HEAVY one", x.step(2, 4), 1);
        due("STOW on the BEACH", x.step(2, 5), 1);
        due("STOW into a full BAG", x.step(0, 5), STATE);
        due("TAKE a full BAG", x.step(1, 1), 1);
        stands(x, 4, 1, 5, 2, 0, 3);
        due("UNPACK", x.step(2, 1), 1);
        due("count(3)", x.count(3), 9);
        due("no THING", x.step(5, 0), BAD);
        due("no THING", x.step(-1, 0), BAD);
        due("none of PEOPLE", x.step(0, 3), BAD);
        due("no place", x.step(0, 7), BAD);
        due("no place", x.step(0, -1), BAD);
        x = isle("p2 b0 h0 t1 l1");
        due("one BAG", x.step(1, 6), BAD);
        due("STOW", x.step(1, 5), 1);
        due("GIVE", x.step(2, 0), 1);
        due("GIVE", x.step(3, 0), 1);
        due("UNPACK above LIMIT", x.step(1, 0), STATE);
        x = isle("p2 s0 tz tz tz");
        x.step(0, 4);
        for (int t = 1; t < 3; t++) due("STOW into a SACK", x.step(t, 5), 1);
        due("STOW a third", x.step(3, 5), STATE);
        x = isle("p1 t0");
        due("no BAG", x.step(0, 5), BAD);
        for (int i = 0; i < 40; i++) due("step " + i, x.step(0, i % 2 == 0 ? 4 : 0), 1);
        due("step 40", x.step(0, 4), FULL);
        due("none such, 40 done", x.step(0, 0), STATE);
        due("no place, 40 done", x.step(0, 1), BAD);
        due("count(3)", x.count(3), 40);
    }

    private static void promise18() {
        ThreeThings x = isle(ISLAND);
        int[][] can = {{1, 2, 4, 5}, {1, 2, 4}, {2, 4}, {0, 1}, {0, 1, 2}};
        for (int t = 0; t < 5; t++) {
            for (int to = 0; to < 7; to++) {
                final int place = to;
                int want = Arrays.stream(can[t]).anyMatch(v -> v == place) ? 1 : 0;
                due("may(" + t + ", " + to + ")", x.may(t, to), to == 3 ? BAD : want);
            }
        }
        due("may(5, 0)", x.may(5, 0), BAD);
        due("may(-1, 0)", x.may(-1, 0), BAD);
        due("may(0, 7)", x.may(0, 7), BAD);
        due("may(0, -1)", x.may(0, -1), BAD);
        stands(x, 0, 0, 1, 2, 4, 3);
        x = isle("p1 t0");
        for (int i = 0; i < 40; i++) x.step(0, i % 2 == 0 ? 4 : 0);
        due("may() with 40 done", x.may(0, 4), 1);
        due("may(0, 5) without a BAG", x.may(0, 5), BAD);
    }

    private static void promise19() {
        ThreeThings x = isle(ISLAND);
        told(x, "steps()", x.steps(), 14, 1);
        x.step(0, 5);
        told(x, "steps(), one in a BAG", x.steps(), 12, 0);
        x = isle("p1 l0");
        told(x, "steps() of none", x.steps(), 0, NONE);
        x = new ThreeThings();
        told(x, "steps() of nobody", x.steps(), 0, NONE);
    }

    private static void promise20() {
        ThreeThings x = isle(ISLAND);
        x.step(0, 5);
        x.step(1, 2);
        x.step(0, 2);
        x.step(0, 4);
        due("undo(5)", x.undo(5), BAD);
        due("undo(-1)", x.undo(-1), BAD);
        due("undo(4)", x.undo(4), 0);
        due("undo(2)", x.undo(2), 2);
        stands(x, 5, 2, 1, 2, 4, 3);
        due("count(3)", x.count(3), 2);
        due("step", x.step(4, 0), 1);
        due("undo(0)", x.undo(0), 3);
        stands(x, 0, 0, 1, 2, 4, 3);
        due("undo(0)", x.undo(0), 0);
        x = isle("p2 t1 t0");
        x.step(1, 1);
        due("undo(0)", x.undo(0), 1);
        stands(x, 1, 0, 3);
    }

    private static void promise21() {
        ThreeThings x = isle(ISLAND);
        rowOf(x, 0, 5, 9, 0, 2);
        due("does() till one can't be", x.does(0), 2);
        stands(x, 5, 2, 1, 2, 4, 3);
        due("count(3)", x.count(3), 2);
        rowOf(x, 0, 28, 25);
        due("does() further", x.does(0), 1);
        stands(x, 5, 2, 1, 2, 0, 3);
        due("count(3)", x.count(3), 3);
    }

    private static void promise21Refused() {
        ThreeThings x = isle(ISLAND);
        int[] none = {-1, 3, 10, 35, 41, Integer.MAX_VALUE, Integer.MIN_VALUE, -35};
        for (int v : none) {
            rowOf(x, 0, 1, v);
            found(x, "does() with " + v, x.does(0), UNLIKE);
            due("count(3)", x.count(3), 0);
        }
        rowOf(x, 0);
        due("does() of none", x.does(0), 0);
        found(x, "does(1)", x.does(1), NOTHING);
        due("does(6)", x.does(6), BAD);
        due("does(-1)", x.does(-1), BAD);
        x.row(0, 41);
        due("41 numbers", x.does(0), FULL);
        x.lay(0, 7, -1);
        found(x, "41 numbers, one none", x.does(0), UNLIKE);
        x.row(0, 40);
        due("40 numbers, of which none can be", x.does(0), 0);
        x.step(0, 1);
        x.row(0, 40);
        x.lay(0, 0, 1);
        due("40 numbers behind one", x.does(0), FULL);
        x.row(0, 39);
        x.lay(0, 1, 1);
        due("39 numbers behind one", x.does(0), 3);
        due("count(3)", x.count(3), 4);
    }

    private static void promise22() {
        ThreeThings x = isle(ISLAND);
        due("keep(0)", x.keep(0), 0);
        x.step(0, 5);
        due("keep(2)", x.keep(2), 1);
        due("keep(-1)", x.keep(-1), BAD);
        due("keep(3)", x.keep(3), BAD);
        due("count(3) stays", x.count(3), 1);
        x.on(0);
        stands(x, 0, 0, 1, 2, 4, 3);
        x.on(2);
        stands(x, 5, 0, 1, 2, 4, 3);
        due("keep(0) over", x.keep(0), 0);
        x.undo(0);
        x.on(0);
        stands(x, 5, 0, 1, 2, 4, 3);
        x = new ThreeThings();
        due("keep(0) of nobody", x.keep(0), STATE);
        due("keep(3) of nobody", x.keep(3), BAD);
    }

    private static void promise23() {
        ThreeThings x = isle(ISLAND);
        x.limit(4);
        x.keep(1);
        x.limit(6);
        x.saw(0, 1);
        x.step(2, 0);
        x.step(0, 5);
        due("on(1)", x.on(1), 1);
        stands(x, 0, 0, 1, 2, 4, 4);
        due("count(3)", x.count(3), 0);
        due("count(5) stays", x.count(5), 1);
        found(x, "on(0)", x.on(0), NOTHING);
        due("on(3)", x.on(3), BAD);
        due("on(-1)", x.on(-1), BAD);
        due("on(1) again", x.on(1), 1);
    }

    private static void promise24() {
        ThreeThings x = isle(ISLAND);
        told(x, "can()", x.can(), 1, 3);
        x.step(3, 1);
        told(x, "can(), two", x.can(), 3, 8);
        x.step(4, 0);
        x.step(0, 6);
        told(x, "can(), in a SACK", x.can(), 3, 8);
        x.step(4, 2);
        told(x, "can(), with another one", x.can(), 6, 14);
        x = new ThreeThings();
        told(x, "can() of nobody", x.can(), 0, 0);
    }

    private static void promise25() {
        ThreeThings x = isle(ISLAND);
        rowOf(x, 0, -1, -1, -1, -1, -1, -1);
        told(x, "a DAY without STEPS", x.day(0), 1, 3);
        rowOf(x, 0, 22, 30, 2, -1, -1, -1);
        told(x, "a DAY of 3 STEPS", x.day(0), 7, 17);
        stands(x, 0, 0, 1, 2, 4, 3);
        rowOf(x, 0, 2, 22, 25, 30, -1, -1);
        told(x, "a DAY with one that can't be", x.day(0), 6, 14);
        rowOf(x, 0, -1, -1, 22, 30, 2, -1);
        told(x, "a DAY, WORK 1 too late", x.day(0), 5, 12);
        rowOf(x, 0, -1, -1, -1, 22, 30, -1, -1, -1, -1, -1, 2, -1);
        told(x, "a DAY of 2", x.day(0), 7, 17);
        int[] four = new int[24];
        Arrays.fill(four, -1);
        four[20] = 2;
        four[23] = 30;
        rowOf(x, 0, four);
        told(x, "a DAY of 4", x.day(0), 5, 12);
        rowOf(x, 0, Arrays.copyOf(four, 18));
        told(x, "a DAY of 3", x.day(0), 1, 3);
        rowOf(x, 0, 3, -1, -1, -1, -1, -1);
        found(x, "day() with its first none", x.day(0), UNLIKE);
        x.row(0, 6);
        told(x, "a DAY of 0 0 0 0 0 0", x.day(0), 1, 3);
        for (int n : new int[] {0, 1, 5, 7, 23, 25, 30, 36}) {
            x.row(0, n);
            found(x, "day() of " + n, x.day(0), SIZE);
        }
        due("asked() stays", x.asked(), 3);
        for (int v : new int[] {-2, 3, 35, 1000}) {
            rowOf(x, 0, -1, -1, -1, -1, -1, v);
            found(x, "day() with " + v, x.day(0), UNLIKE);
        }
        found(x, "day(1)", x.day(1), NOTHING);
        due("day(6)", x.day(6), BAD);
        due("day(-1)", x.day(-1), BAD);
        x = isle("p2 t1 w000:2");
        x.row(0, 6);
        told(x, "STEP 0", x.day(0), 1, 2);
        x = isle("p1 hz hz w0001:2");
        rowOf(x, 0, 0, 7, -1, -1, -1, -1, -1, -1, -1, -1, -1, -1);
        told(x, "above LIMIT", x.day(0), 0, 0);
        x.limit(4);
        told(x, "LIMIT 4", x.day(0), 1, 2);
        write(x, 0, "p1 t0 w500:1");
        x.island(0);
        rowOf(x, 0, -1, 4, -1, -1, -1, -1);
        told(x, "a DAY of another ISLAND", x.day(0), 0, 0);
    }

    private static void promise26() {
        ThreeThings x = isle(ISLAND);
        rowOf(x, 0, -1, -1, -1, -1, -1);
        told(x, "fewest(), anywhere", x.fewest(0), 0, 1);
        rowOf(x, 0, 1, -1, -1, -1, -1);
        told(x, "fewest(), one STEP", x.fewest(0), 1, 1);
        // Both by themselves would be above LIMIT.
        rowOf(x, 0, 1, 1, -1, -1, -1);
        told(x, "fewest(), in a BAG", x.fewest(0), 2, 1);
        // Each by itself, or THING 0 in the BAG.
        rowOf(x, 0, 4, 4, 4, -1, -1);
        told(x, "fewest(), on the BEACH", x.fewest(0), 3, 2);
        rowOf(x, 0, -1, -1, -1, 4, -1);
        due("a LIVING one on the BEACH", x.fewest(0), NONE);
        due("asked() stays", x.asked(), 0);
        stands(x, 0, 0, 1, 2, 4, 3);
        for (int n : new int[] {0, 4, 6}) {
            x.row(0, n);
            found(x, "fewest() of " + n, x.fewest(0), SIZE);
        }
        for (int v : new int[] {-2, 3, 5, 6}) {
            rowOf(x, 0, -1, -1, -1, -1, v);
            found(x, "fewest() with " + v, x.fewest(0), UNLIKE);
        }
        rowOf(x, 0, 3, -1, -1, -1, -1);
        found(x, "fewest() with its first none", x.fewest(0), UNLIKE);
        rowOf(x, 0, -1, -1, -1, 0, -1);
        told(x, "fewest(), to 0", x.fewest(0), 1, 1);
        rowOf(x, 0, -1, -1, 0, -1, -1);
        told(x, "fewest(), to 0, full hands", x.fewest(0), 2, 7);
        rowOf(x, 0, 9, 9, 9, 9, 9, 9);
        found(x, "fewest() of too many that are none", x.fewest(0), SIZE);
        found(x, "fewest(1)", x.fewest(1), NOTHING);
        due("fewest(6)", x.fewest(6), BAD);
        due("fewest(-1)", x.fewest(-1), BAD);
    }

    private static void promise27() {
        ThreeThings x = isle(ISLAND);
        rowOf(x, 0, 4, 4, 4, -1, -1);
        due("way(0, 1)", x.way(0, 1), 3);
        rowIs(x, 1, 4, 11, 18);
        rowOf(x, 0, 1, 1, -1, -1, -1);
        due("way(0, 0) onto itself", x.way(0, 0), 2);
        rowIs(x, 0, 5, 8);
        rowOf(x, 0, 0, -1, -1, -1, -1);
        due("way(0, 1) of none", x.way(0, 1), 0);
        rowIs(x, 1);
        rowOf(x, 1, 7, 7);
        rowOf(x, 0, -1, -1, -1, 4, -1);
        due("way() never", x.way(0, 1), NONE);
        rowIs(x, 1, 7, 7);
        stands(x, 0, 0, 1, 2, 4, 3);
        x.row(0, 4);
        found(x, "way() of 4", x.way(0, 1), SIZE);
        rowOf(x, 0, -1, -1, -1, -1, 3);
        found(x, "way() with 3", x.way(0, 1), UNLIKE);
        rowIs(x, 1, 7, 7);
        found(x, "way(2, 1)", x.way(2, 1), NOTHING);
        due("way(0, 6)", x.way(0, 6), BAD);
        due("way(0, -1)", x.way(0, -1), BAD);
        due("way(6, 0)", x.way(6, 0), BAD);
        due("way(2, 6)", x.way(2, 6), BAD);
    }

    private static void promise28() {
        ThreeThings x = isle("p1 t0");
        told(x, "all() of one THING", x.all(), 2, 1);
        x = isle("p2 t0 t1");
        told(x, "all() of two", x.all(), 9, 2);
        // The BAG at 3 places, the THING at 3, or in it.
        x = isle("p2 t0 b1");
        told(x, "all() with a BAG", x.all(), 12, 3);
        x = isle("p2 h0 h1");
        // Not both with the same one: 9 less 2.
        told(x, "all() of two HEAVY ones", x.all(), 7, 3);
        x = isle("p1 l0");
        told(x, "all() of what stays", x.all(), 1, 0);
        x = new ThreeThings();
        told(x, "all() of nobody", x.all(), 1, 0);
    }

    private static void promise29() {
        ThreeThings x = isle(ISLAND);
        due("till(0)", x.till(0), 0);
        due("till(1)", x.till(1), 1);
        due("till(2)", x.till(2), 2);
        due("till(3)", x.till(3), BAD);
        due("till(-1)", x.till(-1), BAD);
        x = isle("p2 l0 h0 h1 w0012:3 w012:1");
        due("till() never", x.till(0), NONE);
        due("till(1)", x.till(1), 0);
        x.limit(4);
        due("till() with LIMIT 4", x.till(0), 2);
        x.step(1, 1);
        due("till() then", x.till(0), 3);
    }

    private static void promise30() {
        ThreeThings x = isle(ISLAND);
        told(x, "most(0)", x.most(0), 3, 17);
        told(x, "most(1)", x.most(1), 17, 17);
        told(x, "most(2)", x.most(2), 17, 17);
        due("most(3)", x.most(3), BAD);
        due("most(-1)", x.most(-1), BAD);
        stands(x, 0, 0, 1, 2, 4, 3);
        // One THING for two of PEOPLE in the same HOUR, and for the other in the next.
        x = isle("p2 tz w000:4 w010:5 w110:2 w100:9");
        told(x, "most(0), on the BEACH", x.most(0), 0, 20);
        told(x, "most(1), one at a time", x.most(1), 14, 20);
        told(x, "most(2), one at a time", x.most(2), 14, 20);
        x = isle("p2 tz w010:5 w500:1 w510:2");
        told(x, "most(1), the better late", x.most(1), 7, 8);
        x = isle("p2 tz tz w000:3 w1101:5");
        told(x, "most(1), one or the other", x.most(1), 5, 8);
        told(x, "most(2), both", x.most(2), 8, 8);
        x = isle("p3 tz t0 t0 w0101:3 w001:1");
        told(x, "most(1), two STEPS too many", x.most(1), 1, 4);
        told(x, "most(2), two STEPS", x.most(2), 3, 4);
        x = new ThreeThings();
        told(x, "most(0) of nobody", x.most(0), 0, 0);
    }

    private static void promise31() {
        ThreeThings x = isle("p1 hz hz w1001:7");
        due("hand(0)", x.hand(0), 0);
        due("hand(1)", x.hand(1), 7);
        due("hand(2)", x.hand(2), 7);
        due("hand(3)", x.hand(3), BAD);
        due("hand(-1)", x.hand(-1), BAD);
        stands(x, 4, 4, 3);
        x.limit(4);
        due("hand(1) at 4", x.hand(1), 0);
        x.limit(6);
        due("hand(1) at 6", x.hand(1), 0);
        x = isle("p1 hz hz tz w10012:7");
        due("hand(2) two below", x.hand(2), 0);
        x.limit(4);
        due("hand(2) one below", x.hand(2), 7);
        x = isle("p1 hz hz hz tz w100123:7");
        x.limit(6);
        due("hand(2) at 6, more wanted", x.hand(2), 0);
        x = isle("p1 hz hz w1001:7");
        x.limit(6);
        x.thing(1, 0);
        due("hand(3) at 6", x.hand(3), BAD);
        due("asked() stays", x.asked(), 3);
    }

    private static void promise32() {
        ThreeThings x = isle("p1 hz hz w1001:7 w000:1");
        due("creed(3, 1)", x.creed(3, 1), 1);
        due("creed(4, 1)", x.creed(4, 1), 8);
        due("creed(6, 2)", x.creed(6, 2), 8);
        due("creed(1, 2)", x.creed(1, 2), 0);
        due("creed(0, 1)", x.creed(0, 1), BAD);
        due("creed(7, 1)", x.creed(7, 1), BAD);
        due("creed(3, 3)", x.creed(3, 3), BAD);
        due("creed(3, -1)", x.creed(3, -1), BAD);
        x.step(0, 0);
        due("creed(1, 0), somebody has more", x.creed(1, 0), STATE);
        due("creed(1, 3), somebody has more", x.creed(1, 3), BAD);
        due("creed(2, 0)", x.creed(2, 0), 1);
        due("count(3) stays", x.count(3), 1);
        stands(x, 0, 4, 3);
    }

    private static void promise33() {
        ThreeThings x = isle("p2 t0 t1 h1");
        due("its own", x.theft(0, 0), 0);
        due("by one gift", x.theft(0, 1), 2);
        due("never", x.theft(0, 2), NONE);
        stands(x, 0, 1, 1, 3);
        x = isle("p2 l1 t1 t0 tz");
        due("from the BEACH", x.theft(0, 3), 1);
        due("by two gifts", x.theft(0, 1), 4);
        due("a LIVING one", x.theft(0, 0), NONE);
        x = isle("p2 l1 t1 tz tz");
        due("above 4", x.theft(0, 1), NONE);
        x = isle("p2 b1 t1 t1 h0");
        due("of three the second", x.theft(0, 1), 2);
        due("of three the last, by what was dropped", x.theft(0, 2), 4);
        x.step(1, 5);
        due("a BAG dropped", x.theft(0, 0), 2);
        due("what is in a BAG dropped", x.theft(0, 1), 2);
        x = isle("p2 b1 t1 h0");
        x.step(1, 5);
        due("a BAG that is not dropped", x.theft(0, 0), NONE);
        due("what is in a BAG that is not dropped", x.theft(0, 1), NONE);
        x = isle("p1 b0 t0");
        x.step(1, 5);
        due("its own, in a BAG", x.theft(0, 1), 0);
        x.step(0, 4);
        due("in a BAG on the BEACH", x.theft(0, 1), 1);
        due("theft(1, 0)", x.theft(1, 0), BAD);
        due("theft(-1, 0)", x.theft(-1, 0), BAD);
        due("theft(0, 2)", x.theft(0, 2), BAD);
        due("theft(0, -1)", x.theft(0, -1), BAD);
        // To have room for what it takes one first leaves what it has.
        x = isle("p1 h0 t0 tz");
        due("full hands", x.theft(0, 2), 2);
        x = isle("p1 t0 e0 tz hz");
        x.limit(4);
        x.step(2, 0);
        due("fuller hands", x.theft(0, 3), 3);
        x = isle("p2 t1 t0 h0");
        due("from 0", x.theft(1, 1), 2);
        x.limit(4);
        due("from 0 with LIMIT 4", x.theft(1, 1), NONE);
        x = isle("p2 h0 l1 l1 t1");
        for (int t = 1; t < 4; t++) due("what can't be given brings nothing", x.theft(0, t), NONE);
    }

    private static void promise34() {
        ThreeThings x = isle("p2 l1 t1 t0 tz");
        due("thefts(0, 0)", x.thefts(0, 0), 4);
        due("thefts(0, 1)", x.thefts(0, 1), 12);
        due("thefts(0, 3)", x.thefts(0, 3), 12);
        due("thefts(1, 3)", x.thefts(1, 3), 11);
        x = isle("p2 t0 t1 h1");
        due("thefts(0, 1)", x.thefts(0, 1), 1);
        due("thefts(0, 2)", x.thefts(0, 2), 3);
        due("thefts(0, 4)", x.thefts(0, 4), BAD);
        due("thefts(0, -1)", x.thefts(0, -1), BAD);
        due("thefts(2, 0)", x.thefts(2, 0), BAD);
        due("thefts(-1, 0)", x.thefts(-1, 0), BAD);
        stands(x, 0, 1, 1, 3);
    }

    private static void promise35() {
        ThreeThings x = isle("p2 t0 h0 t1 t1 t1");
        // A THING makes 1 drop one, the HEAVY one two.
        told(x, "drops(0, 1)", x.drops(0, 1), 12, 1);
        told(x, "drops(1, 0)", x.drops(1, 0), 1, 2);
        stands(x, 0, 0, 1, 1, 1, 3);
        x = isle("p2 t0 t0 l1 l1 t1");
        told(x, "LIVING ones stay", x.drops(0, 1), 16, 0);
        x = isle("p2 h0 l1 l1 t1");
        told(x, "it can't be given", x.drops(0, 1), 0, NONE);
        x = isle("p3 t0 t1");
        told(x, "there is room", x.drops(0, 1), 0, NONE);
        told(x, "nothing to give", x.drops(2, 1), 0, NONE);
        x = isle("p2 b1 t1 t1 t0");
        x.step(1, 5);
        told(x, "room by a BAG", x.drops(0, 1), 0, NONE);
        x.limit(2);
        told(x, "the BAG, not what is in it", x.drops(0, 1), 1, 3);
        x.step(1, 1);
        due("drops(0, 0)", x.drops(0, 0), BAD);
        due("drops(2, 0)", x.drops(2, 0), BAD);
        due("drops(0, 2)", x.drops(0, 2), BAD);
        due("drops(-1, 0)", x.drops(-1, 0), BAD);
        due("drops(0, -1)", x.drops(0, -1), BAD);
        x = isle("p2 b0 t0 t1 t1 t1");
        x.step(1, 5);
        told(x, "the BAG is given, not what is in it", x.drops(0, 1), 4, 0);
    }

    private static void promise36() {
        ThreeThings x = isle(ISLAND);
        due("beside(0, 1)", x.beside(0, 1), 0);
        due("beside(1, 2)", x.beside(1, 2), 1);
        due("beside(2, 1)", x.beside(2, 1), 1);
        due("beside(0, 2)", x.beside(0, 2), 1);
        x.step(0, 5);
        due("in a BAG", x.beside(2, 0), 1);
        x = isle("p2 t0 t1 tz w0001:1 w101:2 w210:3 w302:4");
        due("both ways, each once", x.beside(0, 1), 2);
        due("beside(0, 0)", x.beside(0, 0), BAD);
        due("beside(0, 2)", x.beside(0, 2), BAD);
        due("beside(-1, 0)", x.beside(-1, 0), BAD);
        due("beside(2, 0)", x.beside(2, 0), BAD);
        due("beside(0, -1)", x.beside(0, -1), BAD);
    }

    private static void promise37() {
        ThreeThings x = new ThreeThings();
        due("pair() of nobody", x.pair(), STATE);
        x = isle("p1 t0 w000:1");
        x.thing(0, 2);
        told(x, "pair() of one", x.pair(), NONE, 0);
        x = isle("p2 t0 w010:1");
        told(x, "pair() of two", x.pair(), 1, 1);
        x = isle("p3 t0 t1 w011:1");
        told(x, "pair() of three without needs", x.pair(), 1, 0);
        x = isle("p3 t0 t1 w021:1");
        told(x, "0 left over", x.pair(), NONE, 1);
        x = isle("p3 t0 t1 w021:1 w020:2");
        told(x, "alike: 0 and 2, 1 and 2", x.pair(), 2, 1);
        x = isle("p4 t0 t1 t2 w031:1 w000:3");
        told(x, "1 and 3", x.pair(), 2, 1);
        x = isle("p4 t3 t1 t2 w021:1");
        told(x, "1 and 2", x.pair(), 3, 1);
        x = isle("p4 t3 t1 t2 w020:1 w021:1");
        told(x, "2 and 3, 1 and 2: alike", x.pair(), 1, 1);
        x = isle("p4 t1 t2 t3 w000:1 w0312:1");
        told(x, "0 and 1 with 2 and 3", x.pair(), 1, 2);
    }

    private static void promise38() {
        ThreeThings x = isle(ISLAND);
        due("saw(0, 1)", x.saw(0, 1), 0);
        due("saw(0, 0)", x.saw(0, 0), 1);
        due("saw(3, 0)", x.saw(3, 0), BAD);
        due("saw(-1, 0)", x.saw(-1, 0), BAD);
        due("saw(0, 2)", x.saw(0, 2), BAD);
        due("saw(0, -1)", x.saw(0, -1), BAD);
        for (int i = 2; i < 8; i++) due("saw " + i, x.saw(1, 1), i);
        due("saw 8", x.saw(1, 1), FULL);
        due("saw 8 of no WORK", x.saw(3, 1), BAD);
        due("count(5)", x.count(5), 8);
    }

    private static void promise39() {
        ThreeThings x = isle(ISLAND);
        due("forget(0)", x.forget(0), 0);
        due("forget(1)", x.forget(1), BAD);
        for (int i = 0; i < 5; i++) x.saw(i % 3, 1);
        due("forget(5)", x.forget(5), 0);
        due("forget(6)", x.forget(6), BAD);
        due("forget(-1)", x.forget(-1), BAD);
        due("forget(2)", x.forget(2), 3);
        due("count(5)", x.count(5), 2);
        due("saw() goes on", x.saw(0, 0), 2);
        due("forget(0)", x.forget(0), 3);
        due("count(5)", x.count(5), 0);
    }

    private static void promise40() {
        ThreeThings x = isle(ISLAND);
        // Of 1 1 2 1 1 within 3: all of up to two, but 0 more; of three those without the HEAVY one.
        told(x, "nothing SEEN", x.drowned(), 1 + 5 + 10 + 4, 0);
        x.saw(0, 0);
        told(x, "with THING 0", x.drowned(), 1 + 4 + 3, 1);
        x.saw(1, 1);
        told(x, "without 2, 3", x.drowned(), 1 + 2 + 1, 1);
        x.saw(2, 0);
        told(x, "with 0 or 4", x.drowned(), 4, 1);
        x.saw(0, 1);
        told(x, "none", x.drowned(), 0, 0);
        x.forget(0);
        x.limit(2);
        told(x, "LIMIT 2", x.drowned(), 1 + 5 + 6, 0);
        x.saw(1, 0);
        x.saw(0, 1);
        told(x, "with 2 or 3", x.drowned(), 1 + 1 + 2, 0);
        x = new ThreeThings();
        told(x, "drowned() of nobody", x.drowned(), 1, 0);
    }

    private static void promise41() {
        ThreeThings x = isle(ISLAND);
        due("odds(2)", x.odds(2), 5);
        due("upper()", x.upper(), 1);
        due("lower()", x.lower(), 4);
        due("odds(0)", x.odds(0), 8);
        due("upper()", x.upper(), 2);
        due("lower()", x.lower(), 5);
        x.saw(0, 1);
        due("odds(0)", x.odds(0), 0);
        due("upper()", x.upper(), 0);
        due("lower()", x.lower(), 1);
        x.saw(0, 0);
        found(x, "odds() of none", x.odds(0), NOUGHT);
        due("odds(5)", x.odds(5), BAD);
        due("odds(-1)", x.odds(-1), BAD);
        due("upper() stays", x.upper(), 0);
        x.forget(0);
        x.saw(0, 0);
        due("odds() of all", x.odds(0), 8);
        due("upper()", x.upper(), 1);
        due("lower()", x.lower(), 1);
    }

    private static void promise42() {
        ThreeThings x = isle(ISLAND);
        x.step(0, 5);
        x.row(2, 60);
        due("image(2)", x.image(2), 6);
        rowIs(x, 2, 5, 0, 1, 2, 4, 3);
        due("image(6)", x.image(6), BAD);
        due("image(-1)", x.image(-1), BAD);
        x = new ThreeThings();
        x.limit(5);
        due("image() of nobody", x.image(0), 1);
        rowIs(x, 0, 5);
    }

    private static void promise43() {
        ThreeThings x = isle(ISLAND);
        x.step(0, 4);
        rowOf(x, 0, 6, 6, 1, 2, 4, 3);
        int[][] none = {{3, 0, 1, 2, 4, 3}, {7, 0, 1, 2, 4, 3}, {-1, 0, 1, 2, 4, 3}, {0, 0, 1, 2, 4, 0},
            {0, 0, 1, 2, 4, 7}, {0, 0, 1, 4, 4, 3}, {0, 0, 1, 5, 4, 3}, {0, 0, 1, 6, 4, 3}, {0, 5, 1, 2, 4, 3},
            {0, 6, 1, 2, 4, 3}, {0, 0, 1, 2, 5, 3}, {5, 0, 5, 2, 4, 3}, {0, 0, 0, 2, 4, 3}, {0, 0, 1, 2, 4, 1},
            {4, 4, 2, 2, 4, 2}};
        for (int[] v : none) {
            rowOf(x, 0, v);
            found(x, "gone to " + Arrays.toString(v), x.gone(0), UNLIKE);
        }
        stands(x, 4, 0, 1, 2, 4, 3);
        due("count(3) stays", x.count(3), 1);
        rowOf(x, 0, 6, 4, 6, 0, 2, 1);
        due("gone()", x.gone(0), 1);
        stands(x, 6, 4, 6, 0, 2, 1);
        due("count(3)", x.count(3), 0);
        rowOf(x, 0, 0, 0, 0, 0, 0, 6);
        due("gone() to full hands", x.gone(0), 1);
        for (int n : new int[] {0, 5, 7}) {
            x.row(0, n);
            found(x, "gone() by " + n, x.gone(0), SIZE);
        }
        found(x, "gone(1)", x.gone(1), NOTHING);
        due("gone(6)", x.gone(6), BAD);
        due("gone(-1)", x.gone(-1), BAD);
        stands(x, 0, 0, 0, 0, 0, 6);
        x = isle("p2 l0 b0 t0");
        for (int place = 4; place < 6; place++) {
            rowOf(x, 0, place, 4, 4, 3);
            found(x, "gone to a LIVING one at " + place, x.gone(0), UNLIKE);
        }
        x = isle("p1 bz sz");
        for (int place = 5; place < 7; place++) {
            rowOf(x, 0, place, 4, 3);
            found(x, "gone to a BAG at " + place, x.gone(0), UNLIKE);
        }
        rowOf(x, 0, 4, 4, 0);
        found(x, "gone to LIMIT 0", x.gone(0), UNLIKE);
        rowOf(x, 0, 4, 0, 1);
        due("gone to LIMIT 1", x.gone(0), 1);
    }

    private static void promise44() {
        ThreeThings x = new ThreeThings();
        due("asked() before", x.asked(), 0);
        rowOf(x, 0, 8, 4);
        told(x, "lay", x.lay(0, 0, 6), 1, 8);
        told(x, "mean", x.mean(0), 1, 5);
        x.row(1, 0);
        x.mean(1);
        x.at(1, 0);
        x.lay(1, 0, 3);
        due("asked() behind refusals", x.asked(), 5);
        x = isle(ISLAND);
        x.thing(3, 0);
        x.mark(2, 3);
        x.limit(4);
        x.may(0, 0);
        x.step(0, 1);
        x.undo(0);
        x.keep(0);
        x.on(0);
        x.till(1);
        x.hand(1);
        x.creed(3, 1);
        x.theft(0, 1);
        x.thefts(0, 1);
        x.beside(0, 1);
        x.saw(0, 1);
        x.odds(1);
        x.forget(0);
        x.count(1);
        x.digest();
        due("asked() behind what tells nothing by it", x.asked(), 2);
        x.work(9, 0);
        x.load(9);
        x.most(9);
        x.drops(0, 0);
        x.day(0);
        due("asked() behind refusals", x.asked(), 2);
        due("digest() leaves it", x.digest() == x.digest() ? x.asked() : 0, 2);
    }

    private static void promise45And46() {
        ThreeThings x = new ThreeThings();
        due("upper() before", x.upper(), 0);
        due("lower() before", x.lower(), 1);
        rowOf(x, 0, 1, 2);
        x.mean(0);
        due("upper() behind mean()", x.upper(), 0);
        x = isle("p1 t0 tz w000:1");
        x.odds(1);
        due("upper()", x.upper(), 1);
        due("lower()", x.lower(), 2);
        x.odds(2);
        due("lower() behind BAD", x.lower(), 2);
    }

    private static void promise47() {
        ThreeThings x = isle(ISLAND);
        x.step(0, 5);
        x.saw(0, 1);
        x.saw(1, 0);
        x.row(0, 1);
        x.row(4, 0);
        x.row(5, 9);
        x.text(0, 3);
        int[] want = {3, 5, 3, 1, 2, 2, 3, 2};
        for (int i = 0; i < 8; i++) due("count(" + i + ")", x.count(i), want[i]);
        due("count(8)", x.count(8), BAD);
        due("count(-1)", x.count(-1), BAD);
    }

    private static void promise48And49() {
        ThreeThings x = new ThreeThings();
        due("finding() before", x.finding(), 0);
        for (int f = 1; f <= 5; f++) due("findings(" + f + ") before", x.findings(f), 0);
        x.tear(0);
        x.row(0, -1);
        x.tear(0);
        x.row(9, 9);
        due("finding()", x.finding(), NOTHING);
        x.row(0, 0);
        x.mean(0);
        x.at(0, 0);
        rowOf(x, 1, -1);
        x.does(1);
        int[] want = {0, 2, 1, 1, 1, 1};
        for (int f = 1; f <= 5; f++) due("findings(" + f + ")", x.findings(f), want[f]);
        due("finding()", x.finding(), UNLIKE);
        due("findings(0)", x.findings(0), BAD);
        due("findings(6)", x.findings(6), BAD);
    }

    private static long mix(int... v) {
        long h = 17;
        for (int i : v) h = 31 * h + i;
        return h;
    }

    private static void promise50() {
        ThreeThings x = new ThreeThings();
        due("digest() of nothing", x.digest(), mix(0, 0, 0, 0, 0, 0, 0, 0, 3, -1, -1, -1, -1, -1, -1, -1, -1, -1, -1,
            -1, -1, -1));
        write(x, 1, "p2b0tzw310:4w101:2");
        x.island(1);
        x.step(1, 0);
        x.keep(0);
        x.limit(4);
        x.step(1, 5);
        x.keep(2);
        x.saw(1, 0);
        x.saw(0, 1);
        rowOf(x, 0, -7, 1 << 30);
        x.row(3, 9);
        x.tear(3);
        x.row(5, 0);
        x.text(3, 1);
        x.put(3, 0, 200);
        x.thing(0, 2);
        due("digest()", x.digest(), mix(2, 2, 2, 1, 1, 2, 2, 2, 4, 1, 0, 1, 0, 0, 5, 1, 0, 3, 1, 1, 4, 1, 0, 2, 2,
            1, 0, 0, 1, 0, 0, 3, -1, 0, 5, 4, 2, -7, 1 << 30, -1, -1, -1, -1, 0, -1, 18, 'p', '2', 'b', '0', 't', 'z',
            'w', '3', '1', '0', ':', '4', 'w', '1', '0', '1', ':', '2', -1, 1, -56));
        due("asked() stays", x.asked(), 1);
    }

    /** What was searched for one state, LIMIT or ISLAND is not told of another one. */
    private static void searchesApart() {
        promise = "26 to 35, one behind the other";
        ThreeThings x = isle("p2 h0 h1");
        told(x, "all()", x.all(), 7, 3);
        x.theft(0, 1);
        told(x, "all() behind theft()", x.all(), 7, 3);
        x.step(0, 4);
        told(x, "all() of another state", x.all(), 7, 2);
        x.limit(4);
        told(x, "all() by another LIMIT", x.all(), 9, 2);
        x.creed(2, 1);
        told(x, "all() behind creed()", x.all(), 9, 2);
        write(x, 0, "p2 t0 t1");
        x.island(0);
        x.step(0, 4);
        x.limit(4);
        told(x, "all() of another ISLAND", x.all(), 9, 2);
        write(x, 0, "p1 tz t0");
        x.island(0);
        x.limit(4);
        told(x, "all() of a third", x.all(), 4, 2);
        x = isle("p2 t0 t1");
        told(x, "all()", x.all(), 9, 2);
        write(x, 0, "p2 h0 h1");
        x.island(0);
        told(x, "all() of an ISLAND alike but for KINDS", x.all(), 7, 3);
        x = isle("p2 t1 h0 h1");
        rowOf(x, 0, 1, 0, 4);
        due("fewest()", x.fewest(0), 1);
        x.step(2, 4);
        due("fewest() then", x.fewest(0), 0);
        x = isle("p2 t1 t0");
        x.limit(1);
        rowOf(x, 0, 0, 1);
        due("fewest() by LIMIT 1", x.fewest(0), 3);
        due("theft() by LIMIT 1", x.theft(0, 0), 2);
        due("fewest() behind theft()", x.fewest(0), 3);
        x = isle("p2 t1");
        rowOf(x, 0, 0);
        due("fewest() from the other one", x.fewest(0), 1);
        x.step(0, 0);
        due("fewest() there", x.fewest(0), 0);
    }

    public static void main(String[] args) {
        Runnable[] tests = {PromisesTest::promise1, PromisesTest::promise2, PromisesTest::promise3,
            PromisesTest::promise4, PromisesTest::promise5, PromisesTest::promise6, PromisesTest::promise7,
            PromisesTest::promise8, PromisesTest::promise9, PromisesTest::promise10, PromisesTest::promise11,
            PromisesTest::promise12, PromisesTest::promise13, PromisesTest::promise14, PromisesTest::promise15,
            PromisesTest::promise16, PromisesTest::promise17, PromisesTest::promise18, PromisesTest::promise19,
            PromisesTest::promise20, PromisesTest::promise21, PromisesTest::promise22, PromisesTest::promise23,
            PromisesTest::promise24, PromisesTest::promise25, PromisesTest::promise26, PromisesTest::promise27,
            PromisesTest::promise28, PromisesTest::promise29, PromisesTest::promise30, PromisesTest::promise31,
            PromisesTest::promise32, PromisesTest::promise33, PromisesTest::promise34, PromisesTest::promise35,
            PromisesTest::promise36, PromisesTest::promise37, PromisesTest::promise38, PromisesTest::promise39,
            PromisesTest::promise40, PromisesTest::promise41, PromisesTest::promise42, PromisesTest::promise43,
            PromisesTest::promise44};
        for (int i = 0; i < tests.length; i++) {
            promise = String.valueOf(i + 1);
            tests[i].run();
        }
        promise = "21";
        promise21Refused();
        promise = "45, 46";
        promise45And46();
        promise = "47";
        promise47();
        promise = "48, 49";
        promise48And49();
        promise = "50";
        promise50();
        searchesApart();
        System.out.println(wrong == 0 ? "all promises hold" : wrong + " answers are not as due");
        if (wrong != 0) System.exit(1);
    }
}
