import java.util.ArrayList;
import java.util.Arrays;
import java.util.Collections;
import java.util.HashMap;
import java.util.HashSet;
import java.util.List;
import java.util.Map;
import java.util.Random;
import java.util.Set;
import java.util.TreeMap;
import java.util.regex.Matcher;
import java.util.regex.Pattern;

/**
 * Random runs of calls, each answer held against a second, plain reading of the document: states are lists, rows of
 * steps are compared as rows, a day is tried hour by hour, a fault is the first sign behind which no text can go on.
 */
public final class ModelTest {
    private static final int BAD = -1, FULL = -2, FINDING = -3, STATE = -4, NONE = -9;
    private static final String LETTERS = "tblhse";

    /** What the document says, as plainly as can be. */
    private static final class Model {
        final Map<Integer, int[]> rows = new TreeMap<>();
        final Map<Integer, int[]> texts = new TreeMap<>();
        int people;
        List<Integer> kinds = new ArrayList<>();
        List<int[]> works = new ArrayList<>();
        List<Integer> where = new ArrayList<>();
        int limit = 3;
        List<List<Integer>> before = new ArrayList<>();
        Map<Integer, List<Integer>> kept = new TreeMap<>();
        List<int[]> seen = new ArrayList<>();
        int asked, finding;
        long upper, lower = 1;
        int[] findings = new int[6];

        int find(int f) {
            finding = f;
            findings[f]++;
            return FINDING;
        }

        int tell(int v) {
            asked = v;
            return 1;
        }

        // ---- rows and texts

        int row(int r, int n) {
            if (r < 0 || r > 5 || n > 60) return BAD;
            if (n < 0) return find(5);
            rows.put(r, new int[n]);
            return n;
        }

        int lay(int r, int i, int v) {
            int answer = at(r, i);
            if (answer == 1) rows.get(r)[i] = v;
            return answer;
        }

        int at(int r, int i) {
            if (r < 0 || r > 5) return BAD;
            if (!rows.containsKey(r)) return find(1);
            if (i < 0 || i >= rows.get(r).length) return find(2);
            return tell(rows.get(r)[i]);
        }

        int tear(int r) {
            if (r < 0 || r > 5) return BAD;
            return rows.remove(r) == null ? find(1) : 1;
        }

        int copy(int r, int i, int to, int j, int n) {
            if (r < 0 || r > 5 || to < 0 || to > 5) return BAD;
            if (n < 0) return find(5);
            if (!rows.containsKey(r) || !rows.containsKey(to)) return find(1);
            int[] from = rows.get(r).clone();
            int[] into = rows.get(to);
            if (i < 0 || j < 0 || (long) i + n > from.length || (long) j + n > into.length) return find(2);
            for (int k = 0; k < n; k++) into[j + k] = from[i + k];
            return 1;
        }

        int mean(int r) {
            if (r < 0 || r > 5) return BAD;
            if (!rows.containsKey(r)) return find(1);
            if (rows.get(r).length == 0) return find(4);
            return tell((int) (Arrays.stream(rows.get(r)).asLongStream().sum() / rows.get(r).length));
        }

        int text(int t, int n) {
            if (t < 0 || t > 3 || n > 100) return BAD;
            if (n < 0) return find(5);
            int[] text = new int[n];
            Arrays.fill(text, 32);
            texts.put(t, text);
            return n;
        }

        int put(int t, int i, int v) {
            if (t < 0 || t > 3) return BAD;
            if (!texts.containsKey(t)) return find(1);
            if (i < 0 || i >= texts.get(t).length) return find(2);
            int was = texts.get(t)[i];
            texts.get(t)[i] = (byte) v;
            return 1000 + was;
        }

        // ---- islands

        static final Pattern ALL = Pattern.compile(" *p[1-4](?: *[tblhse][0-3z])*(?: *w[0-5][0-3][0-4]+:[1-9])* *");

        static boolean canGoOn(String s, boolean end) {
            Matcher m = ALL.matcher(s);
            boolean whole = m.matches();
            if (end ? !whole : !whole && !m.hitEnd()) return false;
            String tight = s.replace(" ", "");
            int people = tight.length() > 1 ? tight.charAt(1) - '0' : 4;
            int w = tight.indexOf('w');
            String things = tight.length() < 2 ? "" : tight.substring(2, w < 0 ? tight.length() : w);
            int[] loads = new int[4];
            int bags = 0;
            for (int i = 0; i < things.length(); i++) {
                char c = things.charAt(i);
                if (i % 2 == 0) {
                    if (i >= 10) return false;
                    if (c == 'b' || c == 's') bags++;
                    if (bags > 2) return false;
                    continue;
                }
                char letter = things.charAt(i - 1);
                if (c == 'z' && (letter == 'l' || letter == 'e')) return false;
                if (c == 'z') continue;
                if (c - '0' >= people) return false;
                loads[c - '0'] += letter == 'h' || letter == 'e' ? 2 : 1;
                if (loads[c - '0'] > 3) return false;
            }
            if (w < 0) return true;
            String[] works = tight.substring(w + 1).split("w", -1);
            if (works.length > 8) return false;
            for (String work : works) {
                if (work.length() > 1 && work.charAt(1) - '0' >= people) return false;
                int colon = work.indexOf(':');
                Set<Character> wanted = new HashSet<>();
                for (int i = 2; i < (colon < 0 ? work.length() : colon); i++) {
                    if (work.charAt(i) - '0' >= things.length() / 2 || !wanted.add(work.charAt(i))) return false;
                }
            }
            return true;
        }

        String string(int t) {
            StringBuilder sb = new StringBuilder();
            for (int b : texts.get(t)) sb.append((char) (b & 255));
            return sb.toString();
        }

        int fault(int t) {
            if (t < 0 || t > 3) return BAD;
            if (!texts.containsKey(t)) return find(1);
            String s = string(t);
            for (int i = 0; i < s.length(); i++) {
                if (!canGoOn(s.substring(0, i + 1), false)) return i;
            }
            return canGoOn(s, true) ? NONE : s.length();
        }

        int island(int t) {
            if (t < 0 || t > 3) return BAD;
            if (!texts.containsKey(t)) return find(1);
            if (fault(t) != NONE) return STATE;
            String[] parts = string(t).replace(" ", "").split("w");
            people = parts[0].charAt(1) - '0';
            kinds.clear();
            where.clear();
            works.clear();
            for (int i = 2; i < parts[0].length(); i += 2) {
                kinds.add(LETTERS.indexOf(parts[0].charAt(i)));
                char c = parts[0].charAt(i + 1);
                where.add(c == 'z' ? 4 : c - '0');
            }
            for (int w = 1; w < parts.length; w++) {
                int bits = 0;
                int colon = parts[w].indexOf(':');
                for (int i = 2; i < colon; i++) bits |= 1 << parts[w].charAt(i) - '0';
                works.add(new int[] {parts[w].charAt(0) - '0', parts[w].charAt(1) - '0', bits,
                    parts[w].charAt(colon + 1) - '0'});
            }
            limit = 3;
            before.clear();
            kept.clear();
            seen.clear();
            return kinds.size();
        }

        int n() {
            return kinds.size();
        }

        boolean living(int t) {
            return kinds.get(t) == 2 || kinds.get(t) == 5;
        }

        boolean bag(int t) {
            return kinds.get(t) == 1 || kinds.get(t) == 4;
        }

        int counts(int t) {
            return kinds.get(t) == 3 || kinds.get(t) == 5 ? 2 : 1;
        }

        List<Integer> bags() {
            List<Integer> bags = new ArrayList<>();
            for (int t = 0; t < n(); t++) if (bag(t)) bags.add(t);
            return bags;
        }

        int whom(List<Integer> s, int t) {
            return s.get(t) < 5 ? s.get(t) : s.get(bags().get(s.get(t) - 5));
        }

        int loadOf(List<Integer> s, int p) {
            int sum = 0;
            for (int t = 0; t < n(); t++) if (s.get(t) == p) sum += counts(t);
            return sum;
        }

        int has(List<Integer> s, int p) {
            int bits = 0;
            for (int t = 0; t < n(); t++) if (whom(s, t) == p) bits |= 1 << t;
            return bits;
        }

        /** Whether a state can be, by what its places and the LIMIT alone say. */
        boolean canBe(List<Integer> s, int lim) {
            for (int t = 0; t < n(); t++) {
                if (living(t) && s.get(t) > 3 || bag(t) && s.get(t) > 4) return false;
            }
            for (int p = 0; p < people; p++) if (loadOf(s, p) > lim) return false;
            for (int b = 0; b < bags().size(); b++) {
                if (Collections.frequency(s, 5 + b) > (kinds.get(bags().get(b)) == 4 ? 2 : 1)) return false;
            }
            return true;
        }

        /** A STEP is one THING's, to a place that is with the same one (or it goes from hand to hand), and can be. */
        boolean allowed(List<Integer> s, int t, int to, int lim) {
            int from = s.get(t);
            if (from == to) return false;
            if (from > 4 && to != whom(s, t)) return false;
            if (to > 4 && s.get(bags().get(to - 5)) != from) return false;
            return canBe(gone(s, t, to), lim);
        }

        static List<Integer> gone(List<Integer> s, int t, int to) {
            List<Integer> next = new ArrayList<>(s);
            next.set(t, to);
            return next;
        }

        boolean place(int to) {
            return to >= 0 && to < people || to == 4 || to > 4 && to < 5 + bags().size();
        }

        boolean number(int v) {
            return v >= 0 && v / 7 < n() && place(v % 7);
        }

        List<Integer> numbers(List<Integer> s, int lim) {
            List<Integer> list = new ArrayList<>();
            for (int v = 0; v < 7 * n(); v++) if (number(v) && allowed(s, v / 7, v % 7, lim)) list.add(v);
            return list;
        }

        int thing(int t, int what) {
            if (t < 0 || t >= n() || what < 0 || what > 3) return BAD;
            return tell(ofThing(t, what));
        }

        int ofThing(int t, int what) {
            return new int[] {kinds.get(t), where.get(t), counts(t), whom(where, t)}[what];
        }

        int mark(int t, int kind) {
            if (t < 0 || t >= n() || kind < 1 || kind > 5) return BAD;
            boolean is = kind == 1 ? bag(t) : kind == 2 ? living(t) : kinds.get(t) == kind;
            if (!is) return find(3);
            int in = bag(t) ? Collections.frequency(where, 5 + bags().indexOf(t)) : 0;
            if (kind == 1) return in;
            if (kind == 2) return loadOf(where, where.get(t));
            if (kind == 3) return (int) works.stream().filter(w -> (w[2] >> t & 1) == 1).count();
            return kind == 4 ? 2 - in : Integer.bitCount(has(where, where.get(t))) - 1;
        }

        int work(int w, int what) {
            if (w < 0 || w >= works.size() || what < 0 || what > 3) return BAD;
            return tell(works.get(w)[what]);
        }

        int load(int p) {
            if (p < 0 || p >= people) return BAD;
            tell(has(where, p));
            return loadOf(where, p);
        }

        boolean someoneAbove(int v) {
            for (int p = 0; p < people; p++) if (loadOf(where, p) > v) return true;
            return false;
        }

        int limit(int v) {
            if (v < 1 || v > 6) return BAD;
            if (someoneAbove(v)) return STATE;
            int was = limit;
            limit = v;
            before.clear();
            return was;
        }

        // ---- steps

        int step(int t, int to) {
            if (t < 0 || t >= n() || !place(to)) return BAD;
            if (!allowed(where, t, to, limit)) return STATE;
            if (before.size() == 40) return FULL;
            before.add(where);
            where = gone(where, t, to);
            return 1;
        }

        int may(int t, int to) {
            if (t < 0 || t >= n() || !place(to)) return BAD;
            return allowed(where, t, to, limit) ? 1 : 0;
        }

        int steps() {
            List<Integer> list = numbers(where, limit);
            tell(list.isEmpty() ? NONE : list.get(0));
            return list.size();
        }

        int undo(int n) {
            if (n < 0 || n > before.size()) return BAD;
            int back = before.size() - n;
            if (back > 0) where = before.get(n);
            before = new ArrayList<>(before.subList(0, n));
            return back;
        }

        int does(int r) {
            if (r < 0 || r > 5) return BAD;
            if (!rows.containsKey(r)) return find(1);
            for (int v : rows.get(r)) if (!number(v)) return find(3);
            if (before.size() + rows.get(r).length > 40) return FULL;
            int n = 0;
            for (int v : rows.get(r)) {
                if (step(v / 7, v % 7) != 1) break;
                n++;
            }
            return n;
        }

        int keep(int k) {
            if (k < 0 || k > 2) return BAD;
            if (people == 0) return STATE;
            List<Integer> image = new ArrayList<>(where);
            image.add(limit);
            kept.put(k, image);
            return before.size();
        }

        int on(int k) {
            if (k < 0 || k > 2) return BAD;
            if (!kept.containsKey(k)) return find(1);
            where = new ArrayList<>(kept.get(k).subList(0, n()));
            limit = kept.get(k).get(n());
            before.clear();
            return 1;
        }

        int doable(List<Integer> s) {
            int bits = 0;
            for (int w = 0; w < works.size(); w++) {
                if ((works.get(w)[2] & ~has(s, works.get(w)[1])) == 0) bits |= 1 << w;
            }
            return bits;
        }

        int worth(int bits) {
            int sum = 0;
            for (int w = 0; w < works.size(); w++) if ((bits >> w & 1) == 1) sum += works.get(w)[3];
            return sum;
        }

        int ofHour(int h) {
            int bits = 0;
            for (int w = 0; w < works.size(); w++) if (works.get(w)[0] == h) bits |= 1 << w;
            return bits;
        }

        int can() {
            tell(worth(doable(where)));
            return doable(where);
        }

        int day(int r) {
            if (r < 0 || r > 5) return BAD;
            if (!rows.containsKey(r)) return find(1);
            int[] row = rows.get(r);
            if (!List.of(6, 12, 18, 24).contains(row.length)) return find(5);
            for (int v : row) if (v != -1 && !number(v)) return find(3);
            List<Integer> s = where;
            int bits = 0;
            for (int i = 0; i < row.length; i++) {
                if (row[i] >= 0 && allowed(s, row[i] / 7, row[i] % 7, limit)) s = gone(s, row[i] / 7, row[i] % 7);
                int m = row.length / 6;
                if (i % m == m - 1) bits |= doable(s) & ofHour(i / m);
            }
            tell(worth(bits));
            return bits;
        }

        // ---- fewest, most

        /** For each number of STEPS the states that need so many, each with the first row of so many to it. */
        List<Map<List<Integer>, List<Integer>>> levels() {
            List<Map<List<Integer>, List<Integer>>> levels = new ArrayList<>();
            Set<List<Integer>> known = new HashSet<>();
            Map<List<Integer>, List<Integer>> level = new HashMap<>();
            level.put(where, List.of());
            while (!level.isEmpty()) {
                levels.add(level);
                known.addAll(level.keySet());
                Map<List<Integer>, List<Integer>> next = new HashMap<>();
                for (Map.Entry<List<Integer>, List<Integer>> e : level.entrySet()) {
                    for (int v : numbers(e.getKey(), limit)) {
                        List<Integer> s = gone(e.getKey(), v / 7, v % 7);
                        if (known.contains(s)) continue;
                        List<Integer> row = new ArrayList<>(e.getValue());
                        row.add(v);
                        next.merge(s, row, (a, b) -> compareRows(a, b) <= 0 ? a : b);
                    }
                }
                level = next;
            }
            return levels;
        }

        static int compareRows(List<Integer> a, List<Integer> b) {
            for (int i = 0; i < Math.min(a.size(), b.size()); i++) {
                if (!a.get(i).equals(b.get(i))) return a.get(i) - b.get(i);
            }
            return a.size() - b.size();
        }

        int wantRefused(int r) {
            if (!rows.containsKey(r)) return find(1);
            if (rows.get(r).length != n()) return find(5);
            for (int v : rows.get(r)) if (v < -1 || v > 4 || v >= people && v < 4) return find(3);
            return 0;
        }

        boolean asWanted(List<Integer> s, int[] row) {
            for (int t = 0; t < n(); t++) if (row[t] != -1 && whom(s, t) != row[t]) return false;
            return true;
        }

        int fewest(int r) {
            if (r < 0 || r > 5) return BAD;
            int refused = wantRefused(r);
            if (refused != 0) return refused;
            int d = 0;
            for (Map<List<Integer>, List<Integer>> level : levels()) {
                int n = (int) level.keySet().stream().filter(s -> asWanted(s, rows.get(r))).count();
                if (n > 0) tell(n);
                if (n > 0) return d;
                d++;
            }
            return NONE;
        }

        int way(int r, int to) {
            if (r < 0 || r > 5 || to < 0 || to > 5) return BAD;
            int refused = wantRefused(r);
            if (refused != 0) return refused;
            for (Map<List<Integer>, List<Integer>> level : levels()) {
                List<Integer> first = level.entrySet().stream().filter(e -> asWanted(e.getKey(), rows.get(r)))
                    .map(Map.Entry::getValue).min(Model::compareRows).orElse(null);
                if (first == null) continue;
                rows.put(to, first.stream().mapToInt(v -> v).toArray());
                return first.size();
            }
            return NONE;
        }

        int all() {
            List<Map<List<Integer>, List<Integer>>> levels = levels();
            tell(levels.size() - 1);
            return levels.stream().mapToInt(Map::size).sum();
        }

        int till(int w) {
            if (w < 0 || w >= works.size()) return BAD;
            int d = 0;
            for (Map<List<Integer>, List<Integer>> level : levels()) {
                if (level.keySet().stream().anyMatch(s -> (doable(s) >> w & 1) == 1)) return d;
                d++;
            }
            return NONE;
        }

        /** The most from a state on, so many STEPS of the DAY being over. */
        int from(List<Integer> s, int over, int m, int lim, Map<List<Integer>, Integer> known) {
            List<Integer> key = new ArrayList<>(s);
            key.add(over);
            Integer known1 = known.get(key);
            if (known1 != null) return known1;
            int hour = over / m;
            int most = 0;
            List<List<Integer>> nexts = new ArrayList<>();
            nexts.add(s);
            for (int v : numbers(s, lim)) nexts.add(gone(s, v / 7, v % 7));
            for (List<Integer> next : nexts) {
                int sum = (over + 1) % m == 0 ? worth(doable(next) & ofHour(hour)) : 0;
                if (over + 1 < 6 * m) sum += from(next, over + 1, m, lim, known);
                most = Math.max(most, sum);
            }
            known.put(key, most);
            return most;
        }

        int mostBy(int m, int lim) {
            return m == 0 ? worth(doable(where)) : from(where, 0, m, lim, new HashMap<>());
        }

        int most(int m) {
            if (m < 0 || m > 2) return BAD;
            tell(worth(255));
            return mostBy(m, limit);
        }

        int hand(int m) {
            if (m < 0 || m > 2) return BAD;
            return limit == 6 ? 0 : mostBy(m, limit + 1) - mostBy(m, limit);
        }

        int creed(int v, int m) {
            if (v < 1 || v > 6 || m < 0 || m > 2) return BAD;
            return someoneAbove(v) ? STATE : mostBy(m, v);
        }

        // ---- theft, neighbours, the drowned

        /** A state behind a gift by THEFT, null if it can't be given. */
        List<Integer> given(List<Integer> s, int t, int q) {
            List<Integer> next = s;
            while (loadOf(next, q) + counts(t) > limit) {
                int u = 0;
                while (u < n() && (next.get(u) != q || living(u))) u++;
                if (u == n()) return null;
                next = gone(next, u, 4);
            }
            return gone(next, t, q);
        }

        Set<List<Integer>> thefts1(List<Integer> s, int p) {
            Set<List<Integer>> set = new HashSet<>();
            for (int t = 0; t < n(); t++) {
                if (s.get(t) == p && !living(t)) set.add(gone(s, t, 4));
                if (s.get(t) == 4 && loadOf(s, p) + counts(t) <= limit) set.add(gone(s, t, p));
                for (int q = 0; q < people; q++) {
                    if (s.get(t) == p && q != p && given(s, t, q) != null) set.add(given(s, t, q));
                }
            }
            return set;
        }

        int within(int p, int k) {
            Set<List<Integer>> states = new HashSet<>(Set.of(where));
            int bits = has(where, p);
            for (int i = 0; i < k; i++) {
                Set<List<Integer>> next = new HashSet<>(states);
                for (List<Integer> s : states) next.addAll(thefts1(s, p));
                states = next;
                for (List<Integer> s : states) bits |= has(s, p);
            }
            return bits;
        }

        int theft(int p, int t) {
            if (p < 0 || p >= people || t < 0 || t >= n()) return BAD;
            for (int k = 0; k <= 4; k++) if ((within(p, k) >> t & 1) == 1) return k;
            return NONE;
        }

        int thefts(int p, int k) {
            return p < 0 || p >= people || k < 0 || k > 3 ? BAD : within(p, k);
        }

        int drops(int p, int q) {
            if (p < 0 || p >= people || q < 0 || q >= people || p == q) return BAD;
            int most = 0;
            int gift = NONE;
            for (int t = 0; t < n(); t++) {
                List<Integer> next = where.get(t) == p ? given(where, t, q) : null;
                if (next == null) continue;
                int bits = 0;
                for (int u = 0; u < n(); u++) if (where.get(u) == q && next.get(u) == 4) bits |= 1 << u;
                if (Integer.bitCount(bits) > Integer.bitCount(most)) {
                    most = bits;
                    gift = t;
                }
            }
            tell(gift);
            return most;
        }

        int beside(int p, int q) {
            if (p < 0 || p >= people || q < 0 || q >= people || p == q) return BAD;
            return oneWay(p, q) + oneWay(q, p);
        }

        int oneWay(int p, int q) {
            int n = 0;
            for (int t = 0; t < n(); t++) {
                final int thing = t;
                if (whom(where, t) == q && works.stream().anyMatch(w -> w[1] == p && (w[2] >> thing & 1) == 1)) n++;
            }
            return n;
        }

        int pair() {
            if (people == 0) return STATE;
            int[][][] ways = {{}, {{}}, {{0, 1}}, {{0, 1}, {0, 2}, {1, 2}}, {{0, 1, 2, 3}, {0, 2, 1, 3}, {0, 3, 1, 2}}};
            int most = -1;
            int partner = NONE;
            for (int[] way : ways[people]) {
                int sum = 0;
                for (int i = 0; i < way.length; i += 2) sum += beside(way[i], way[i + 1]);
                if (sum <= most) continue;
                most = sum;
                partner = way.length > 0 && way[0] == 0 ? way[1] : NONE;
            }
            tell(most);
            return partner;
        }

        int saw(int w, int is) {
            if (w < 0 || w >= works.size() || is < 0 || is > 1) return BAD;
            if (seen.size() == 8) return FULL;
            seen.add(new int[] {w, is});
            return seen.size() - 1;
        }

        int forget(int n) {
            if (n < 0 || n > seen.size()) return BAD;
            int less = seen.size() - n;
            seen = new ArrayList<>(seen.subList(0, n));
            return less;
        }

        List<Integer> sets() {
            List<Integer> sets = new ArrayList<>();
            for (int set = 0; set < 1 << n(); set++) {
                int sum = 0;
                for (int t = 0; t < n(); t++) if ((set >> t & 1) == 1) sum += counts(t);
                boolean fits = sum <= limit;
                for (int[] s : seen) fits &= ((works.get(s[0])[2] & set) != 0) == (s[1] == 0);
                if (fits) sets.add(set);
            }
            return sets;
        }

        int drowned() {
            List<Integer> sets = sets();
            tell(sets.isEmpty() ? 0 : sets.stream().reduce(31, (a, b) -> a & b) & (1 << n()) - 1);
            return sets.size();
        }

        int odds(int t) {
            if (t < 0 || t >= n()) return BAD;
            List<Integer> sets = sets();
            if (sets.isEmpty()) return find(4);
            int with = (int) sets.stream().filter(s -> (s >> t & 1) == 1).count();
            int d = sets.size();
            while (with % d != 0 || sets.size() % d != 0) d--;
            upper = with / d;
            lower = sets.size() / d;
            return with;
        }

        int image(int r) {
            if (r < 0 || r > 5) return BAD;
            int[] row = new int[n() + 1];
            for (int t = 0; t < n(); t++) row[t] = where.get(t);
            row[n()] = limit;
            rows.put(r, row);
            return n() + 1;
        }

        int gone(int r) {
            if (r < 0 || r > 5) return BAD;
            if (!rows.containsKey(r)) return find(1);
            int[] row = rows.get(r);
            if (row.length != n() + 1) return find(5);
            List<Integer> s = new ArrayList<>();
            for (int t = 0; t < n(); t++) {
                if (!place(row[t])) return find(3);
                s.add(row[t]);
            }
            if (row[n()] < 1 || row[n()] > 6 || !canBe(s, row[n()])) return find(3);
            where = s;
            limit = row[n()];
            before.clear();
            return 1;
        }

        // ---- what is told

        int count(int what) {
            int[] counts = {people, n(), works.size(), before.size(), bags().size(), seen.size(), rows.size(),
                texts.size()};
            return what < 0 || what > 7 ? BAD : counts[what];
        }

        int findings(int f) {
            return f < 1 || f > 5 ? BAD : findings[f];
        }

        long digest() {
            List<Integer> v = new ArrayList<>();
            for (int i = 0; i < 8; i++) v.add(count(i));
            v.add(limit);
            for (int t = 0; t < n(); t++) for (int i = 0; i < 4; i++) v.add(ofThing(t, i));
            for (int[] w : works) for (int i = 0; i < 4; i++) v.add(w[i]);
            for (int[] s : seen) v.addAll(List.of(s[0], s[1]));
            for (int k = 0; k < 3; k++) v.addAll(kept.getOrDefault(k, List.of(-1)));
            for (int r = 0; r < 6; r++) addRow(v, rows.get(r));
            for (int t = 0; t < 4; t++) addRow(v, texts.get(t));
            long h = 17;
            for (int i : v) h = 31 * h + i;
            return h;
        }

        static void addRow(List<Integer> v, int[] row) {
            v.add(row == null ? -1 : row.length);
            if (row != null) for (int i : row) v.add(i);
        }
    }

    private final Random random;
    private final ThreeThings x = new ThreeThings();
    private final Model y = new Model();
    private final StringBuilder log = new StringBuilder();
    private boolean wrong;
    /** How many more of the calls that take long for the model. */
    private int dear;

    private ModelTest(long seed, int dear) {
        random = new Random(seed);
        this.dear = dear;
    }

    private void same(String call, long got, long want) {
        log.append(call).append(" -> ").append(got).append('\n');
        if (got != want && !wrong) {
            wrong = true;
            System.out.println(log + "answered " + got + ", due is " + want);
        }
    }

    private int below(int n) {
        return random.nextInt(n);
    }

    /** A number from 0 to below n, now and then one that is none. */
    private int about(int n) {
        int[] none = {-1, n, -2, n + 1, 1 << 30, Integer.MIN_VALUE, Integer.MAX_VALUE};
        if (below(25) == 0) return none[below(7)];
        return n > 0 ? below(n) : 0;
    }

    private String randomIsland() {
        StringBuilder sb = new StringBuilder();
        int people = 1 + below(4);
        blanks(sb);
        sb.append('p').append(people);
        int things = below(12) == 0 ? below(7) : 3 + below(3);
        String letters = below(3) == 0 ? "tsbhh" : below(3) == 0 ? "tbs" : LETTERS;
        for (int t = 0; t < things; t++) {
            blanks(sb);
            char letter = letters.charAt(below(letters.length()));
            boolean beach = "le".indexOf(letter) < 0 && below(4) == 0;
            sb.append(letter).append(beach ? "z" : String.valueOf(below(people)));
        }
        int works = below(10);
        for (int w = 0; w < works && things > 0; w++) {
            blanks(sb);
            sb.append('w').append(below(6)).append(below(people));
            List<Integer> order = new ArrayList<>();
            for (int t = 0; t < things; t++) order.add(t);
            Collections.shuffle(order, random);
            int wants = 1 + below(Math.min(things, 3));
            for (int i = 0; i < wants; i++) sb.append(order.get(i));
            sb.append(':').append(1 + below(9));
        }
        blanks(sb);
        if (below(5) == 0 && sb.length() > 0) spoil(sb);
        return sb.length() > 100 ? sb.substring(0, 100) : sb.toString();
    }

    private void spoil(StringBuilder sb) {
        int i = below(sb.length());
        String signs = "ptblhsewz0123456789: ";
        switch (below(3)) {
            case 0: sb.setCharAt(i, signs.charAt(below(signs.length()))); break;
            case 1: sb.insert(i, signs.charAt(below(signs.length()))); break;
            default: sb.deleteCharAt(i);
        }
    }

    private void blanks(StringBuilder sb) {
        if (below(3) == 0) sb.append(' ');
    }

    /** Texts until one is an island, or some are none. */
    private void island() {
        for (int i = 0; i < 6; i++) {
            int t = below(4);
            String s = randomIsland();
            same("text(" + t + ", " + s.length() + ")", x.text(t, s.length()), y.text(t, s.length()));
            for (int k = 0; k < s.length(); k++) {
                int v = s.charAt(k) + 256 * (below(9) - 4) * (below(20) / 19);
                if (s.charAt(k) != ' ') same("put " + s.charAt(k), x.put(t, k, v), y.put(t, k, v));
            }
            same("fault(" + t + ")", x.fault(t), y.fault(t));
            int n = y.island(t);
            same("island(" + t + ")", x.island(t), n);
            if (n > 0) return;
        }
    }

    private void oneCall() {
        int kind = below(10);
        if (kind < 2) rowCall();
        else if (kind < 5) stepCall();
        else if (kind < 7) searchCall();
        else if (kind < 9) lateCall();
        else tellingCall();
        same("asked()", x.asked(), y.asked);
        same("upper()", x.upper(), y.upper);
        same("lower()", x.lower(), y.lower);
        same("finding()", x.finding(), y.finding);
    }

    private void rowCall() {
        int r = about(6);
        int i = about(8);
        int v = below(8) == 0 ? random.nextInt() : below(12) - 2;
        switch (below(9)) {
            case 0: same("row " + r + " " + i, x.row(r, i), y.row(r, i)); break;
            case 1: case 2: same("lay " + r + " " + i + " " + v, x.lay(r, i, v), y.lay(r, i, v)); break;
            case 3: same("at " + r + " " + i, x.at(r, i), y.at(r, i)); break;
            case 4: same("tear " + r, x.tear(r), y.tear(r)); break;
            case 5:
                int to = about(6);
                int j = about(5);
                int n = about(5);
                same("copy " + r + " " + i + " " + to + " " + j + " " + n, x.copy(r, i, to, j, n),
                    y.copy(r, i, to, j, n));
                break;
            case 6: same("mean " + r, x.mean(r), y.mean(r)); break;
            case 7: same("put " + r + " " + i + " " + v, x.put(r, i, v), y.put(r, i, v)); break;
            default: same("fault " + r, x.fault(r), y.fault(r));
        }
    }

    private void stepCall() {
        int t = about(y.n());
        int to = about(7);
        int k = about(3);
        switch (below(16)) {
            case 0: case 1: case 2: case 3: case 4:
                same("step " + t + " " + to, x.step(t, to), y.step(t, to)); break;
            case 5: same("may " + t + " " + to, x.may(t, to), y.may(t, to)); break;
            case 6: same("steps", x.steps(), y.steps()); break;
            case 7:
                int n = about(y.before.size() + 1);
                same("undo " + n, x.undo(n), y.undo(n));
                break;
            case 8: case 9: stepsOfRow(); break;
            case 10: same("keep " + k, x.keep(k), y.keep(k)); break;
            case 11: same("on " + k, x.on(k), y.on(k)); break;
            case 12: same("can", x.can(), y.can()); break;
            case 13:
                int v = below(3) == 0 ? about(7) : Math.min(6, y.limit + below(2));
                same("limit " + v, x.limit(v), y.limit(v));
                break;
            default: dayOfRow();
        }
    }

    /** A number of a STEP, mostly of one that can be as it is. */
    private int number() {
        List<Integer> list = y.numbers(y.where, y.limit);
        if (below(40) == 0) return about(35);
        if (!list.isEmpty() && below(3) > 0) return list.get(below(list.size()));
        for (int i = 0; i < 20; i++) {
            int v = below(35);
            if (y.number(v)) return v;
        }
        return below(35);
    }

    private void fillRow(int r, int n) {
        same("row " + r + " " + n, x.row(r, n), y.row(r, n));
    }

    private void lay(int r, int i, int v) {
        same("lay " + r + " " + i + " " + v, x.lay(r, i, v), y.lay(r, i, v));
    }

    private void stepsOfRow() {
        int r = below(6);
        int n = below(12) == 0 ? 30 + below(20) : below(5);
        fillRow(r, n);
        for (int i = 0; i < n; i++) lay(r, i, number());
        same("does " + r, x.does(r), y.does(r));
    }

    private void dayOfRow() {
        int r = below(6);
        int n = below(15) == 0 ? below(40) : 6 * (1 + below(4));
        fillRow(r, n);
        for (int i = 0; i < n; i++) {
            if (below(2) == 0) lay(r, i, -1);
            else lay(r, i, number());
        }
        same("day " + r, x.day(r), y.day(r));
    }

    private void searchCall() {
        if (dear <= 0) return;
        dear--;
        int m = about(3);
        switch (below(8)) {
            case 0: case 1: case 2: wantedRow(); break;
            case 3: same("all", x.all(), y.all()); break;
            case 4:
                int w = about(y.works.size());
                same("till " + w, x.till(w), y.till(w));
                break;
            case 5: same("most " + m, x.most(m), y.most(m)); break;
            case 6: same("hand " + m, x.hand(m), y.hand(m)); break;
            default:
                int v = about(7);
                same("creed " + v + " " + m, x.creed(v, m), y.creed(v, m));
        }
    }

    private void wantedRow() {
        int r = below(6);
        int n = below(20) == 0 ? below(7) : y.n();
        fillRow(r, n);
        for (int i = 0; i < n; i++) {
            int p = y.people == 0 || below(3) == 0 ? -1 : below(5) == 0 ? 4 : below(y.people);
            if (below(40) == 0) p = about(6);
            lay(r, i, p);
        }
        int to = about(6);
        if (below(2) == 0) same("fewest " + r, x.fewest(r), y.fewest(r));
        same("way " + r + " " + to, x.way(r, to), y.way(r, to));
        if (below(3) == 0) same("does " + to, x.does(to), y.does(to));
    }

    private void lateCall() {
        int p = about(y.people);
        int q = about(y.people);
        int t = about(y.n());
        switch (below(14)) {
            case 0: same("theft " + p + " " + t, x.theft(p, t), y.theft(p, t)); break;
            case 1:
                int k = about(4);
                same("thefts " + p + " " + k, x.thefts(p, k), y.thefts(p, k));
                break;
            case 2: case 3: same("drops " + p + " " + q, x.drops(p, q), y.drops(p, q)); break;
            case 4: same("beside " + p + " " + q, x.beside(p, q), y.beside(p, q)); break;
            case 5: same("pair", x.pair(), y.pair()); break;
            case 6: case 7:
                int w = about(y.works.size());
                int is = about(2);
                same("saw " + w + " " + is, x.saw(w, is), y.saw(w, is));
                break;
            case 8:
                int n = about(y.seen.size() + 1);
                same("forget " + n, x.forget(n), y.forget(n));
                break;
            case 9: same("drowned", x.drowned(), y.drowned()); break;
            case 10: same("odds " + t, x.odds(t), y.odds(t)); break;
            case 11:
                int r = about(6);
                same("image " + r, x.image(r), y.image(r));
                break;
            default: goneTo();
        }
    }

    private void goneTo() {
        int r = below(6);
        int n = below(20) == 0 ? below(7) : y.n() + 1;
        fillRow(r, n);
        for (int i = 0; i < n; i++) {
            boolean limit = i == n - 1;
            int v = below(40) == 0 ? about(7) : limit ? 1 + below(6) : below(6) == 0 ? 4 + below(3)
                : y.people > 0 ? below(y.people) : 0;
            lay(r, i, v);
        }
        same("gone " + r, x.gone(r), y.gone(r));
    }

    private void tellingCall() {
        int t = about(y.n());
        int what = about(4);
        switch (below(7)) {
            case 0: same("thing " + t + " " + what, x.thing(t, what), y.thing(t, what)); break;
            case 1: case 2:
                int kind = about(6);
                same("mark " + t + " " + kind, x.mark(t, kind), y.mark(t, kind));
                break;
            case 3:
                int w = about(y.works.size());
                same("work " + w + " " + what, x.work(w, what), y.work(w, what));
                break;
            case 4:
                int p = about(y.people);
                same("load " + p, x.load(p), y.load(p));
                break;
            case 5:
                int c = about(8);
                same("count " + c, x.count(c), y.count(c));
                break;
            default:
                int f = about(6);
                same("findings " + f, x.findings(f), y.findings(f));
        }
        same("digest", x.digest(), y.digest());
    }

    private boolean run(int calls) {
        if (below(20) > 0) island();
        for (int i = 0; i < calls && !wrong; i++) {
            if (below(60) == 0) island();
            oneCall();
        }
        same("digest", x.digest(), y.digest());
        return !wrong;
    }

    public static void main(String[] args) {
        int runs = args.length > 0 ? Integer.parseInt(args[0]) : 1500;
        long seed = args.length > 1 ? Long.parseLong(args[1]) : 1;
        for (int i = 0; i < runs; i++) {
            if (new ModelTest(seed + i, 2).run(70)) continue;
            System.out.println("run with seed " + (seed + i));
            System.exit(1);
        }
        System.out.println(runs + " random runs answered as the model");
    }
}
