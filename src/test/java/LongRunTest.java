import java.util.ArrayList;
import java.util.List;
import java.util.Random;

/**
 * An object is used for 512 calls: what was asked of it before changes no later answer. Each question is asked of one
 * object that was asked all the others, too, and of a fresh one on which only the changes were done.
 */
public final class LongRunTest {
    private static final int CALLS = 512;
    /** Two changes, two ROWS made anew, a question of two calls. */
    private static final int MOST_AT_ONCE = 6;
    private static final String[] ISLANDS = {"p2 t0 bz h1 w000:4 w1112:5 w210:3", "p3 t0 s0 l1 e2 tz w0001:3 w123:5",
        "p4 tz t0 tz sz bz w0001:3 w113:5 w2240:4 w501:1", "p1 b0 h0 tz w0012:2 w301:1", "p4 h0 h1 h2 t3 w301:7"};

    private interface Call {
        long on(ThreeThings x);
    }

    private static int wrong = 0;

    private static long told(long answer, ThreeThings x) {
        return answer < 0 ? answer : 1000 * answer + x.asked();
    }

    /** Those that ask twice (an answer, and what is told) are two calls. */
    private static final Call[] TWICE = {y -> told(y.all(), y), y -> told(y.most(2), y), y -> told(y.fewest(0), y),
        y -> told(y.steps(), y), y -> told(y.can(), y), y -> told(y.drops(0, 1), y), y -> told(y.drowned(), y),
        y -> told(y.load(0), y)};
    private static final Call[] ONCE = {y -> y.way(0, 1), y -> y.till(0), y -> y.hand(1), y -> y.creed(6, 2),
        y -> y.creed(4, 1), y -> y.theft(0, 1), y -> y.theft(0, 2), y -> y.thefts(0, 3), y -> y.beside(0, 1),
        y -> y.fault(0), y -> y.mark(1, 1), y -> y.may(0, 4), y -> y.image(2), ThreeThings::digest};

    /** What ROWS 1, 2 hold comes of what was asked: no change looks at them. */
    private static Call change(Random random) {
        int t = random.nextInt(5);
        int to = random.nextInt(7);
        int v = random.nextInt(6) + 1;
        int k = random.nextInt(3);
        switch (random.nextInt(12)) {
            case 0: return y -> y.limit(v);
            case 1: return y -> y.undo(0);
            case 2: return y -> y.keep(k);
            case 3: return y -> y.on(k);
            case 4: return y -> y.saw(k, to % 2);
            case 5: return y -> y.lay(0, t, to - 1);
            default: return y -> y.step(t, to);
        }
    }

    private static int begin(ThreeThings x, String island) {
        x.text(0, island.length());
        for (int i = 0; i < island.length(); i++) x.put(0, i, island.charAt(i));
        int things = x.island(0);
        x.row(0, things);
        for (int r = 1; r < 3; r++) x.row(r, 0);
        return island.length() + 5;
    }

    private static void run(int seed) {
        Random random = new Random(seed);
        String island = ISLANDS[seed % ISLANDS.length];
        List<Call> changes = new ArrayList<>();
        ThreeThings x = new ThreeThings();
        int calls = begin(x, island);
        while (calls + MOST_AT_ONCE <= CALLS) {
            for (int i = random.nextInt(3); i > 0; i--) {
                Call change = change(random);
                change.on(x);
                changes.add(change);
                calls++;
            }
            boolean twice = random.nextInt(5) < 3;
            Call[] from = twice ? TWICE : ONCE;
            int which = random.nextInt(from.length);
            ThreeThings fresh = new ThreeThings();
            begin(fresh, island);
            for (Call c : changes) c.on(fresh);
            // The digest would tell what way() and image() brought there.
            for (int r = 1; r < 3; r++) x.row(r, 0);
            calls += 2;
            long got = from[which].on(x);
            long want = from[which].on(fresh);
            calls += twice ? 2 : 1;
            if (got == want) continue;
            wrong++;
            System.out.println("run " + seed + ", call " + calls + ", question " + which + (twice ? " told" : "")
                + " is " + got + ", of a fresh object " + want);
        }
    }

    public static void main(String[] args) {
        for (int seed = 0; seed < 40; seed++) run(seed);
        System.out.println(wrong == 0 ? "long runs answer as short ones" : wrong + " answers are not as due");
        if (wrong != 0) System.exit(1);
    }
}
