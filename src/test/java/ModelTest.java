import java.util.ArrayDeque;
import java.util.ArrayList;
import java.util.Arrays;
import java.util.Deque;
import java.util.HashMap;
import java.util.List;
import java.util.Map;
import java.util.NoSuchElementException;
import java.util.TreeMap;
import java.util.TreeSet;

/**
 * Long runs of calls, each answered twice: by CosetHouse and by a plain model of the document that
 * shares nothing with it (rows by their numbers in a map, words as texts of columns).
 */
public final class ModelTest {
    private static long seed;
    private static int wrong = 0;

    private static int pick(int below) {
        seed = seed * 6364136223846793005L + 1442695040888963407L;
        return (int) ((seed >>> 33) % below);
    }

    // ---- the model

    private static final class Fault extends RuntimeException {
        final int kind;
        final int place;
        Fault(int kind, int place) { super(null, null, false, false); this.kind = kind; this.place = place; }
    }

    private static final class Parser {
        final String text;
        final int letters;
        int at = 0;
        Parser(String text, int letters) { this.text = text; this.letters = letters; }
        char now() {
            while (at < text.length() && text.charAt(at) == ' ') at++;
            return at < text.length() ? text.charAt(at) : '\uffff';
        }
        List<Integer> all() {
            List<Integer> w = word(0);
            if (now() != '\uffff') throw new Fault(1, at);
            return w;
        }
        int column(char c) {
            int low = "abcde".substring(0, letters).indexOf(c);
            int high = "ABCDE".substring(0, letters).indexOf(c);
            return low >= 0 ? 2 * low : high >= 0 ? 2 * high + 1 : -1;
        }
        List<Integer> word(int open) {
            List<Integer> sum = new ArrayList<>();
            if (now() == '1') { at++; return sum; }
            boolean any = false;
            while (true) {
                char c = now();
                boolean starts = c == '(' || c == '[' || column(c) >= 0;
                if (!starts) {
                    if (!any) throw new Fault(1, at);
                    return sum;
                }
                any = true;
                int start = at;
                List<Integer> factor = factor(open, start);
                sum = reduce(join(sum, factor));
                if (sum.size() > 40) throw new Fault(2, start);
            }
        }
        List<Integer> factor(int open, int start) {
            char c = now();
            List<Integer> atom;
            if (column(c) >= 0) {
                at++;
                atom = new ArrayList<>(List.of(column(c)));
            } else {
                if (open == 8) throw new Fault(3, at);
                at++;
                atom = word(open + 1);
                if (c == '(') {
                    if (now() != ')') throw new Fault(1, at);
                } else {
                    if (now() != ',') throw new Fault(1, at);
                    at++;
                    List<Integer> second = word(open + 1);
                    if (now() != ']') throw new Fault(1, at);
                    atom = reduce(join(join(turned(atom), turned(second)), join(atom, second)));
                }
                at++;
            }
            if (now() != '^') {
                if (atom.size() > 40) throw new Fault(2, start);
                return atom;
            }
            at++;
            boolean minus = now() == '-';
            if (minus) at++;
            now();
            int digits = at;
            while (at < text.length() && text.charAt(at) >= '0' && text.charAt(at) <= '9') at++;
            if (at == digits) throw new Fault(1, at);
            String number = text.substring(digits, at).replaceFirst("^0+", "");
            if (number.length() > 2) throw new Fault(4, digits);
            int n = number.isEmpty() ? 0 : Integer.parseInt(number);
            List<Integer> power = new ArrayList<>();
            for (int k = 0; k < n; k++) {
                power = reduce(join(power, minus ? turned(atom) : atom));
                if (power.size() > 40) throw new Fault(2, start);
            }
            return power;
        }
    }

    private static List<Integer> join(List<Integer> a, List<Integer> b) {
        List<Integer> all = new ArrayList<>(a);
        all.addAll(b);
        return all;
    }

    private static List<Integer> turned(List<Integer> a) {
        List<Integer> all = new ArrayList<>();
        for (int c : a) all.add(0, other(c));
        return all;
    }

    private static List<Integer> reduce(List<Integer> a) {
        List<Integer> all = new ArrayList<>(a);
        boolean again = true;
        while (again) {
            again = false;
            for (int k = 0; k + 1 < all.size(); k++) {
                if (all.get(k) == other(all.get(k + 1))) {
                    all.remove(k);
                    all.remove(k);
                    again = true;
                    break;
                }
            }
        }
        return all;
    }

    private static int other(int c) { return c % 2 == 0 ? c + 1 : c - 1; }

    private static final class Spent extends RuntimeException {
        Spent() { super(null, null, false, false); }
    }

    private static final class Rows {
        TreeMap<Integer, Integer[]> rows = new TreeMap<>();
        TreeSet<Integer> done = new TreeSet<>();
        int strategy, told, columns, made, most, next, packs, steps, state;
        boolean melted;
        int hand;

        Rows copy() {
            Rows r = new Rows();
            for (Map.Entry<Integer, Integer[]> e : rows.entrySet()) r.rows.put(e.getKey(), e.getValue().clone());
            r.done.addAll(done);
            r.strategy = strategy; r.told = told; r.columns = columns; r.made = made; r.most = most;
            r.next = next; r.packs = packs; r.steps = steps; r.state = state; r.melted = melted;
            return r;
        }
        void add() {
            rows.put(next++, new Integer[columns]);
            made++;
            most = Math.max(most, rows.size());
        }
        Integer get(int r, int c) { return rows.get(r)[c]; }
        void link(int r, int c, int s) { rows.get(r)[c] = s; rows.get(s)[other(c)] = r; }
        boolean place() { return rows.size() < told && made < 2000; }
        void fresh(int r, int c) {
            if (!place()) throw new Spent();
            int s = next;
            add();
            link(r, c, s);
        }
        Integer go(List<Integer> w, int r) {
            Integer at = r;
            for (int c : w) {
                if (at == null) return null;
                at = get(at, c);
            }
            return at;
        }
        void quarrel(int a, int b) {
            Deque<int[]> due = new ArrayDeque<>();
            Map<Integer, Integer> into = new HashMap<>();
            due.add(new int[] {a, b});
            while (!due.isEmpty()) {
                int[] pair = due.poll();
                int x = pair[0], y = pair[1];
                while (into.containsKey(x)) x = into.get(x);
                while (into.containsKey(y)) y = into.get(y);
                if (x == y) continue;
                int stay = Math.min(x, y), gone = Math.max(x, y);
                into.put(gone, stay);
                melted = true;
                for (Integer[] row : rows.values())
                    for (int c = 0; c < columns; c++) if (row[c] != null && row[c] == gone) row[c] = stay;
                Integer[] lost = rows.remove(gone);
                done.remove(gone);
                Integer[] held = rows.get(stay);
                for (int c = 0; c < columns; c++) {
                    if (lost[c] == null) continue;
                    if (held[c] == null) held[c] = lost[c];
                    else if (!held[c].equals(lost[c])) due.add(new int[] {held[c], lost[c]});
                }
            }
        }
        int end, due;
        boolean changed;
        int look(List<Integer> w, int r) {
            int i = 0, j = w.size(), f = r, b = r;
            while (i < j && get(f, w.get(i)) != null) f = get(f, w.get(i++));
            while (j > i && get(b, other(w.get(j - 1))) != null) b = get(b, other(w.get(--j)));
            if (i == j && f != b) { quarrel(f, b); changed = true; }
            if (j - i == 1) { link(f, w.get(i), b); changed = true; }
            end = f;
            due = i < w.size() ? w.get(i) : -1;
            return j - i;
        }
        void close(List<List<Integer>> words, List<List<Integer>> subs) {
            do {
                changed = false;
                for (int r : new ArrayList<>(rows.keySet()))
                    for (List<Integer> w : words) if (rows.containsKey(r)) look(w, r);
                for (List<Integer> w : subs) look(w, 0);
            } while (changed);
        }
        void pack() {
            List<Integer> order = new ArrayList<>(rows.keySet());
            number(order);
            packs++;
            melted = false;
        }
        void number(List<Integer> order) {
            TreeMap<Integer, Integer[]> anew = new TreeMap<>();
            TreeSet<Integer> doneNow = new TreeSet<>();
            for (int k = 0; k < order.size(); k++) {
                Integer[] row = rows.get(order.get(k));
                for (int c = 0; c < columns; c++) if (row[c] != null) row[c] = order.indexOf(row[c]);
                anew.put(k, row);
                if (done.contains(order.get(k))) doneNow.add(k);
            }
            hand = order.indexOf(hand);
            rows = anew;
            done = doneNow;
            next = order.size();
        }
        List<Integer> met() {
            List<Integer> order = new ArrayList<>(List.of(0));
            for (int k = 0; k < order.size(); k++)
                for (int c = 0; c < columns; c++) {
                    Integer s = get(order.get(k), c);
                    if (!order.contains(s)) order.add(s);
                }
            return order;
        }
        boolean small(List<List<Integer>> words, List<List<Integer>> subs) {
            if (strategy != 4 || place()) return false;
            close(words, subs);
            if (!rows.containsKey(hand)) hand = -1;
            if (melted) pack();
            return true;
        }
        void fill(List<Integer> w, List<List<Integer>> words, List<List<Integer>> subs) {
            while (hand >= 0 && rows.containsKey(hand) && look(w, hand) > 1) {
                if (small(words, subs)) {
                    if (hand < 0 || look(w, hand) <= 1) return;
                }
                fresh(end, due);
            }
        }
        void fillRow(List<List<Integer>> words, List<List<Integer>> subs) {
            hand = -1;
            for (int r : rows.keySet()) if (!done.contains(r)) { hand = r; break; }
            for (List<Integer> w : words) if (rows.containsKey(hand)) fill(w, words, subs);
            for (int c = 0; c < columns; c++) {
                if (!rows.containsKey(hand) || get(hand, c) != null) continue;
                if (small(words, subs) && (hand < 0 || get(hand, c) != null)) continue;
                fresh(hand, c);
            }
            if (rows.containsKey(hand)) done.add(hand);
        }
        int empty() {
            int n = 0;
            for (Integer[] row : rows.values()) for (Integer c : row) if (c == null) n++;
            return n;
        }
        void lookStep(List<List<Integer>> words, List<List<Integer>> subs) {
            outer:
            for (int r : rows.keySet())
                for (int c = 0; c < columns; c++)
                    if (get(r, c) == null) { fresh(r, c); break outer; }
            close(words, subs);
        }
        void step(List<List<Integer>> words, List<List<Integer>> subs) {
            if (state != 0) return;
            steps++;
            try {
                if (steps == 1) {
                    hand = 0;
                    for (List<Integer> w : subs) fill(w, words, subs);
                } else if (strategy == 1 || strategy == 3 && steps % 2 == 1) {
                    lookStep(words, subs);
                } else {
                    fillRow(words, subs);
                    if (strategy == 2) close(words, subs);
                }
                if (closed(words, subs)) state = 1;
            } catch (Spent e) {
                state = 2;
            }
        }
        boolean closed(List<List<Integer>> words, List<List<Integer>> subs) {
            if (empty() > 0) return false;
            for (int r : rows.keySet()) for (List<Integer> w : words) if (go(w, r) != r) return false;
            for (List<Integer> w : subs) if (go(w, 0) != 0) return false;
            return true;
        }
        TreeMap<Integer, String> leastWords() {
            TreeMap<Integer, String> best = new TreeMap<>();
            best.put(0, "");
            List<Integer> edge = List.of(0);
            while (!edge.isEmpty()) {
                // All words one letter longer; of those to one row the least by columns.
                TreeMap<Integer, String> more = new TreeMap<>();
                for (int r : edge)
                    for (int c = 0; c < columns; c++) {
                        int s = get(r, c);
                        String w = best.get(r) + (char) ('0' + c);
                        if (!best.containsKey(s) && (!more.containsKey(s) || w.compareTo(more.get(s)) < 0)) more.put(s, w);
                    }
                best.putAll(more);
                edge = new ArrayList<>(more.keySet());
            }
            return best;
        }
        List<Integer> rounds(List<Integer> w) {
            List<Integer> lengths = new ArrayList<>();
            TreeSet<Integer> rest = new TreeSet<>(rows.keySet());
            while (!rest.isEmpty()) {
                int r = rest.first(), n = 0;
                while (rest.remove(r)) { n++; r = go(w, r); }
                lengths.add(n);
            }
            return lengths;
        }
    }

    private static final class Model {
        StringBuilder tape = new StringBuilder();
        int letters = 1, fault = 0, trouble = 0, place = -1;
        List<List<Integer>> words = new ArrayList<>(), subs = new ArrayList<>();
        List<Integer> asked = new ArrayList<>();
        Rows t = null, kept = null;
        String out = "";
        int tries = -1, lowColumns;
        boolean ended;
        int found;
        List<int[][]> lows = new ArrayList<>();
        int[][] sheet = new int[0][10];

        int no(int why) { trouble = why; return -1; }
        int ok(int v) { trouble = 0; return v; }
        int feed(int... five) {
            if (tape.length() + 20 > 400) return -1;
            for (int n : five) for (int k = 3; k >= 0; k--) tape.append((char) (n >> 8 * k & 255));
            return tape.length();
        }
        int letters(int n) {
            if (n < 1 || n > 5) { no(1); return 0; }
            letters = n;
            words.clear(); subs.clear(); asked = new ArrayList<>(); t = null; kept = null;
            return ok(1);
        }
        List<Integer> parse(int n) {
            if (n < 0 || n > tape.length()) { no(1); return null; }
            String text = tape.substring(0, n);
            tape.setLength(0);
            try {
                List<Integer> w = new Parser(text, letters).all();
                fault = 0;
                return w;
            } catch (Fault f) {
                fault = f.kind;
                place = f.place;
                no(2);
                return null;
            }
        }
        int word(int n, List<List<Integer>> list, int room) {
            List<Integer> w = parse(n);
            if (w == null) return -1;
            if (list.size() == room) return no(3);
            if (!w.isEmpty()) { list.add(w); t = null; kept = null; }
            return ok(w.size());
        }
        int drop(List<List<Integer>> list) {
            if (list.isEmpty()) { no(4); return 0; }
            list.remove(list.size() - 1);
            t = null; kept = null;
            return ok(1);
        }
        int letter(int i, int k, List<List<Integer>> list) {
            return i < 0 || i >= list.size() || k < 0 || k >= list.get(i).size() ? -1 : list.get(i).get(k);
        }
        int ask(int n) {
            List<Integer> w = parse(n);
            if (w == null) return -1;
            asked = w;
            return ok(w.size());
        }
        int begin(int strategy, int rows) {
            if (strategy < 0 || strategy > 4 || rows < 1 || rows > 300) { no(1); return 0; }
            t = new Rows();
            t.strategy = strategy; t.told = rows; t.columns = 2 * letters;
            t.add();
            return ok(1);
        }
        int run(int n, boolean one) {
            if (t == null) return no(5);
            if (n < 1 || n > 2000) return no(1);
            for (int k = 0; k < n && t.state == 0; k++) t.step(words, subs);
            return ok(t.state);
        }
        int cell(int r, int c) {
            if (t == null || r < 0 || r >= t.next || c < 0 || c >= t.columns) return -1;
            if (!t.rows.containsKey(r)) return -3;
            return t.get(r, c) == null ? -2 : t.get(r, c);
        }
        int row(int i) {
            return t == null || i < 0 || i >= t.rows.size() ? -1 : new ArrayList<>(t.rows.keySet()).get(i);
        }
        int about(int what) {
            if (t == null || what < 0 || what > 9) return -1;
            return new int[] {t.rows.size(), t.made, t.made - t.rows.size(), t.most, t.steps, t.empty(), t.state,
                t.packs, t.next, t.done.size()}[what];
        }
        boolean closed() { return t != null && t.state == 1; }
        int rename() {
            if (!closed()) { no(6); return 0; }
            t.number(t.met());
            return ok(1);
        }
        int pack() {
            if (t == null) return no(5);
            t.pack();
            return ok(t.rows.size());
        }
        int lead(int r) {
            if (t == null || !t.rows.containsKey(r)) return -1;
            Integer s = t.go(asked, r);
            return s == null ? -2 : s;
        }
        int is() {
            if (asked.isEmpty()) return 1;
            if (t == null) return -2;
            if (closed()) {
                for (int r : t.rows.keySet()) if (t.go(asked, r) != r) return 0;
                return subs.isEmpty() ? 1 : -2;
            }
            Integer s = t.go(asked, 0);
            return subs.isEmpty() && s != null && s == 0 ? 1 : -2;
        }
        int within() {
            if (t == null) return -1;
            Integer s = t.go(asked, 0);
            return s != null && s == 0 ? 1 : closed() ? 0 : -2;
        }
        int power() {
            if (!closed()) return -1;
            java.math.BigInteger all = java.math.BigInteger.ONE;
            for (int n : t.rounds(asked)) {
                java.math.BigInteger b = java.math.BigInteger.valueOf(n);
                all = all.multiply(b).divide(all.gcd(b));
            }
            return all.min(java.math.BigInteger.valueOf(Integer.MAX_VALUE)).intValue();
        }
        int cycles(int letter, int length) {
            if (!closed() || letter < 0 || letter >= letters) return no(6);
            int n = 0;
            for (int k : t.rounds(List.of(2 * letter))) if (k == length) n++;
            return ok(n);
        }
        String spell(List<Integer> w) {
            StringBuilder s = new StringBuilder();
            for (int c : w) s.append("aAbBcCdDeE".charAt(c));
            return s.toString();
        }
        int least(int r) {
            if (!closed()) return no(6);
            if (!t.rows.containsKey(r)) return no(4);
            List<Integer> w = new ArrayList<>();
            for (char c : t.leastWords().get(r).toCharArray()) w.add(c - '0');
            out = spell(w);
            return ok(w.size());
        }
        int farthest() {
            if (!closed()) return no(6);
            int far = 0, length = -1;
            for (Map.Entry<Integer, String> e : t.leastWords().entrySet())
                if (e.getValue().length() > length) { far = e.getKey(); length = e.getValue().length(); }
            return ok(far);
        }
        int tell(int sort, int i) {
            List<Integer> w = null;
            if (sort == 0 && i >= 0 && i < words.size()) w = words.get(i);
            if (sort == 1 && i >= 0 && i < subs.size()) w = subs.get(i);
            if (sort == 2) w = asked;
            if (w == null) return no(4);
            out = spell(w);
            return ok(w.size());
        }
        int low(int n) {
            if (n < 1 || n > 6) return no(1);
            tries = 0; ended = false; found = 0; lows.clear(); lowColumns = 2 * letters;
            int[][] one = new int[1][lowColumns];
            Arrays.fill(one[0], -1);
            grow(one, n);
            lows.sort((x, y) -> compare(x, y));
            return ok(found);
        }
        static int compare(int[][] x, int[][] y) {
            for (int r = 0; r < Math.min(x.length, y.length); r++)
                for (int c = 0; c < x[r].length; c++) if (x[r][c] != y[r][c]) return x[r][c] - y[r][c];
            return 0;
        }
        void grow(int[][] table, int n) {
            int k = table.length;
            for (int r = 0; r < k; r++)
                for (int c = 0; c < lowColumns; c++) {
                    if (table[r][c] >= 0) continue;
                    for (int s = 0; s <= k; s++) {
                        if (s < k ? table[s][other(c)] >= 0 : k >= n) continue;
                        if (tries == 3000) { ended = true; return; }
                        tries++;
                        int[][] more = new int[s == k ? k + 1 : k][];
                        for (int q = 0; q < more.length; q++) {
                            more[q] = q < k ? table[q].clone() : new int[lowColumns];
                            if (q == k) Arrays.fill(more[q], -1);
                        }
                        more[r][c] = s;
                        more[s][other(c)] = r;
                        if (sound(more)) {
                            if (!full(more)) grow(more, n);
                            else if (least(more)) { found++; if (lows.size() < 40) lows.add(more); }
                        }
                        if (ended) return;
                    }
                    return;
                }
        }
        boolean sound(int[][] table) {
            for (List<Integer> w : words)
                for (int r = 0; r < table.length; r++) {
                    int at = r;
                    for (int c : w) if (at >= 0) at = table[at][c];
                    if (at >= 0 && at != r) return false;
                }
            return true;
        }
        static boolean full(int[][] table) {
            for (int[] row : table) for (int v : row) if (v < 0) return false;
            return true;
        }
        static int[][] from(int[][] table, int first) {
            List<Integer> order = new ArrayList<>(List.of(first));
            for (int k = 0; k < order.size(); k++)
                for (int v : table[order.get(k)]) if (!order.contains(v)) order.add(v);
            int[][] anew = new int[table.length][];
            for (int k = 0; k < table.length; k++) {
                anew[k] = table[order.get(k)].clone();
                for (int c = 0; c < anew[k].length; c++) anew[k][c] = order.indexOf(anew[k][c]);
            }
            return anew;
        }
        boolean least(int[][] table) {
            for (int r = 1; r < table.length; r++) if (compare(from(table, r), table) < 0) return false;
            return true;
        }
        int lowly(int what) {
            return tries < 0 || what < 0 || what > 1 ? -1 : what == 0 ? tries : ended ? 1 : 0;
        }
        int[][] kept(int i) { return i < 0 || i >= lows.size() ? null : lows.get(i); }
        int small(int i, int r, int c) {
            int[][] l = kept(i);
            return l == null || r < 0 || r >= l.length || c < 0 || c >= l[0].length ? -1 : l[r][c];
        }
        int size(int i) { return kept(i) == null ? -1 : kept(i).length; }
        int normal(int i) {
            if (kept(i) == null) return -1;
            for (int r = 0; r < kept(i).length; r++) if (compare(from(kept(i), r), kept(i)) != 0) return 0;
            return 1;
        }
        int keep() {
            if (t == null) { no(5); return 0; }
            kept = t.copy();
            return ok(1);
        }
        int back() {
            if (kept == null) { no(7); return 0; }
            t = kept.copy();
            return ok(1);
        }
        int sheet(int n) {
            if (n < 0 || n > 40) { no(1); return 0; }
            sheet = new int[n][10];
            for (int[] row : sheet) Arrays.fill(row, -1);
            return ok(1);
        }
        int put(int r, int c, int v) {
            if (r < 0 || r >= sheet.length || c < 0 || c > 9) { no(1); return 0; }
            sheet[r][c] = v;
            return ok(1);
        }
        int check() {
            int n = sheet.length;
            if (n == 0) return -1;
            for (int r = 0; r < n; r++) for (int c = 0; c < 2 * letters; c++)
                if (sheet[r][c] < 0 || sheet[r][c] >= n) return 1000 * r + 10 * c + 1;
            for (int r = 0; r < n; r++) for (int c = 0; c < 2 * letters; c++)
                if (sheet[sheet[r][c]][other(c)] != r) return 1000 * r + 10 * c + 2;
            for (int r = 0; r < n; r++) for (List<Integer> w : words) if (end(w, r) != r) return 1000 * r + 3;
            for (List<Integer> w : subs) if (end(w, 0) != 0) return 4;
            TreeSet<Integer> reached = new TreeSet<>(List.of(0));
            for (int k = 0; k < n; k++)
                for (int r : new ArrayList<>(reached)) for (int c = 0; c < 2 * letters; c++) reached.add(sheet[r][c]);
            for (int r = 0; r < n; r++) if (!reached.contains(r)) return 1000 * r + 5;
            return -2;
        }
        int end(List<Integer> w, int r) {
            for (int c : w) r = sheet[r][c];
            return r;
        }
        int where() { return trouble == 2 ? place : -1; }
    }

    // ---- the runs

    private static CosetHouse x;
    private static Model m;
    private static int run;
    private static StringBuilder log;
    private static boolean off;

    private static void due(String call, int got, int want) {
        log.append(call).append(" = ").append(want).append('\n');
        if (got != want && !off) {
            wrong++;
            off = true;
            String all = log.toString();
            System.out.println("run " + run + ": " + call + " answered " + got + ", due is " + want);
            if (wrong == 1) System.out.println(all.length() > 6000 ? all.substring(all.length() - 6000) : all);
        }
    }

    private static int bit(boolean b) { return b ? 1 : 0; }

    private static void feed(String text) {
        StringBuilder padded = new StringBuilder(text);
        while (padded.length() % 20 != 0) padded.append(' ');
        for (int k = 0; k < padded.length(); k += 20) {
            int[] n = new int[5];
            for (int q = 0; q < 20; q++) n[q / 4] = n[q / 4] << 8 | padded.charAt(k + q) & 255;
            due("feed " + padded.substring(k, k + 20), x.feed(n[0], n[1], n[2], n[3], n[4]), m.feed(n));
        }
    }

    private static void tell(String text, int what) {
        feed(text);
        int n = pick(40) == 0 ? pick(60) - 10 : text.length();
        if (what == 0) due("word(" + n + ")", x.word(n), m.word(n, m.words, 12));
        else if (what == 1) due("sub(" + n + ")", x.sub(n), m.word(n, m.subs, 6));
        else due("ask(" + n + ")", x.ask(n), m.ask(n));
        due("fault()", x.fault(), m.fault);
        due("where()", x.where(), m.where());
    }

    private static String text(int deep) {
        StringBuilder s = new StringBuilder();
        int n = 1 + pick(4);
        for (int k = 0; k < n; k++) {
            int kind = pick(12);
            if (kind < 8 || deep == 0) s.append("abcdeABCDE".charAt(pick(5) < 4 ? pick(m.letters) + 5 * pick(2) : pick(10)));
            else if (kind < 10) s.append('(').append(text(deep - 1)).append(')');
            else s.append('[').append(text(deep - 1)).append(',').append(text(deep - 1)).append(']');
            if (pick(3) == 0) s.append('^').append(pick(4) == 0 ? "-" : "").append(pick(8) == 0 ? pick(130) : pick(6));
            if (pick(8) == 0) s.append(' ');
        }
        if (pick(15) == 0) return "1";
        return s.toString();
    }

    /** About as many letters as a word may have, with a power that may take them all away. */
    private static String wideCommutator() {
        String power = pick(3) == 0 ? "" : "^" + (pick(3) == 0 ? "-" : "") + (pick(4) == 0 ? pick(130) : pick(3));
        return (pick(2) == 0 ? text(1) : "") + "[" + plainText(3) + "a^" + (10 + pick(24)) + ","
            + (pick(4) == 0 ? "b^" + pick(45) : plainText(4)) + "]" + power + (pick(2) == 0 ? text(1) : "");
    }

    private static String plainText(int most) {
        StringBuilder s = new StringBuilder();
        int n = 1 + pick(most);
        for (int k = 0; k < n; k++) s.append("abcdeABCDE".charAt(pick(m.letters) + 5 * pick(2)));
        return s.toString();
    }

    private static String spoiled(String text) {
        StringBuilder s = new StringBuilder(text);
        int n = pick(3);
        for (int k = 0; k < n && s.length() > 0; k++) {
            char c = "()[],^-019 aAbB?".charAt(pick(16));
            int at = pick(s.length());
            int how = pick(3);
            if (how == 0) s.setCharAt(at, c);
            else if (how == 1) s.insert(at, c);
            else s.deleteCharAt(at);
        }
        return s.toString();
    }

    private static final String[][] GROUPS = {
        {"1", "a^12"}, {"1", "a^30", "a^12"}, {"2", "a^2", "b^3", "(ab)^5"}, {"2", "a^2", "b^3", "(ab)^4"},
        {"2", "a^3", "b^3", "(ab)^3", "(aB)^3"}, {"2", "a^4", "a^2B^2", "BabA^-1"}, {"2", "[a,b]", "a^5", "b^7"},
        {"2", "a^2", "b^3", "(ab)^7", "[a,b]^4"}, {"3", "a^2", "b^2", "c^2", "(ab)^3", "(bc)^3", "(ac)^2"},
        {"2", "ABabA", "BAbaB"}, {"3", "abC", "bcA", "caB"}, {"4", "abC", "bcD", "cdA", "daB"},
        {"5", "abC", "bcD", "cdE", "deA", "eaB"}, {"2", "a^8", "b^7", "(ab)^2", "(Ab)^3"}, {"2", "a^2", "b^2"},
        {"3", "a^2", "b^2", "c^2", "(ab)^4", "(bc)^3", "(ca)^2"}, {"2", "a^3", "b^2", "(ab)^6", "[a,b]^2"},
    };

    private static void ask(int what) {
        int next = m.t == null ? 3 : m.t.next;
        int r = pick(next + 3) - 1, c = pick(2 * m.letters + 2) - 1;
        switch (what) {
            case 0: due("cell(" + r + "," + c + ")", x.cell(r, c), m.cell(r, c)); break;
            case 1: due("row(" + r + ")", x.row(r), m.row(r)); break;
            case 2: for (int k = -1; k < 11; k++) due("about(" + k + ")", x.about(k), m.about(k)); break;
            case 3: due("index()", x.index(), m.closed() ? m.t.rows.size() : -1); break;
            case 4: due("lead(" + r + ")", x.lead(r), m.lead(r)); break;
            case 5: due("is()", x.is(), m.is()); due("within()", x.within(), m.within()); break;
            case 6: due("power()", x.power(), m.power()); break;
            case 7: { int l = pick(m.letters + 2) - 1, n = pick(8) - 1; due("cycles(" + l + "," + n + ")", x.cycles(l, n), m.cycles(l, n)); break; }
            case 8: due("least(" + r + ")", x.least(r), m.least(r)); outs(); break;
            case 9: due("farthest()", x.farthest(), m.farthest()); break;
            case 10: { int s = pick(5) - 1, i = pick(7) - 1; due("tell(" + s + "," + i + ")", x.tell(s, i), m.tell(s, i)); outs(); break; }
            case 11: { int i = pick(7) - 1, k = pick(12) - 1; boolean s = pick(2) == 0; due("letter", x.letter(i, k, s), m.letter(i, k, s ? m.subs : m.words)); break; }
            case 12: whole(); break;
            default: due("trouble()", x.trouble(), m.trouble); due("where()", x.where(), m.where()); break;
        }
    }

    private static void whole() {
        for (int k = 0; k < (m.t == null ? 1 : m.t.next + 1); k++)
            for (int q = 0; q < 2 * m.letters; q++) due("cell(" + k + "," + q + ")", x.cell(k, q), m.cell(k, q));
    }

    private static void outs() {
        for (int k = -1; k <= m.out.length(); k++) {
            int got;
            try { got = x.out(k); } catch (NoSuchElementException e) { got = -99; }
            due("out(" + k + ")", got, k < 0 || k >= m.out.length() ? -99 : m.out.charAt(k));
        }
    }

    private static void act(int what) {
        switch (what) {
            case 0: case 1: {
                int s = pick(20) == 0 ? pick(7) - 1 : pick(5);
                int n = pick(20) == 0 ? (pick(2) == 0 ? 0 : 301) : pick(3) == 0 ? 1 + pick(300) : 1 + pick(40);
                due("begin(" + s + "," + n + ")", bit(x.begin(s, n)), m.begin(s, n));
                break;
            }
            case 2: case 3: case 4: due("step()", x.step(), m.run(1, true)); break;
            case 5: case 6: {
                int n = pick(10) == 0 ? pick(3) * 1001 - 1 : pick(3) == 0 ? 2000 : 1 + pick(20);
                due("run(" + n + ")", x.run(n), m.run(n, false));
                break;
            }
            case 7: due("pack()", x.pack(), m.pack()); break;
            case 8: due("rename()", bit(x.rename()), m.rename()); break;
            case 9: due("keep()", bit(x.keep()), m.keep()); break;
            case 10: due("back()", bit(x.back()), m.back()); break;
            case 11: if (pick(4) == 0) tell(pick(2) == 0 ? plainText(12) : text(2), 1); break;
            case 12: if (pick(4) == 0) tell(pick(2) == 0 ? plainText(12) : text(2), 0); break;
            case 13: tell(pick(3) == 0 ? spoiled(text(3)) : text(2), 2); break;
            case 14: if (pick(5) == 0) { boolean s = pick(2) == 0; due("drop(" + s + ")", bit(x.drop(s)), m.drop(s ? m.subs : m.words)); } break;
            default: ask(pick(14)); break;
        }
    }

    private static void present() {
        String[] g = GROUPS[pick(GROUPS.length)];
        int n = Integer.parseInt(g[0]);
        due("letters(" + n + ")", bit(x.letters(n)), m.letters(n));
        for (int k = 1; k < g.length; k++) tell(g[k], 0);
        int subs = pick(3);
        for (int k = 0; k < subs; k++) tell(plainText(5), 1);
    }

    private static void start(int number) {
        run = number;
        seed = number * 7919L + 17;
        x = new CosetHouse();
        m = new Model();
        log = new StringBuilder();
        off = false;
        for (int k = 0; k < 5; k++) pick(2);
    }

    private static void tableRun(int number) {
        start(number);
        present();
        for (int k = 0; k < 60 && !off; k++) act(pick(24));
        if (!off) whole();
        ask(2);
    }

    private static void strategyRun(int number) {
        start(number);
        if (number % 3 == 0) {
            int n = 1 + pick(4);
            due("letters(" + n + ")", bit(x.letters(n)), m.letters(n));
            for (int k = pick(5); k >= 0; k--) tell(plainText(10), 0);
            for (int k = pick(3); k > 0; k--) tell(plainText(8), 1);
        } else {
            present();
        }
        int limit = 1 + (pick(2) == 0 ? pick(60) : pick(300));
        for (int s = 0; s < 5 && !off; s++) {
            due("begin(" + s + "," + limit + ")", bit(x.begin(s, limit)), m.begin(s, limit));
            for (int k = 0; k < 40 && m.t.state == 0; k++) {
                due("step()", x.step(), m.run(1, true));
                if (pick(4) == 0) ask(2);
            }
            due("run(2000)", x.run(2000), m.run(2000, false));
            whole();
            ask(2);
            for (int k = 0; k < 14; k++) ask(k);
        }
    }

    private static void textRun(int number) {
        start(number);
        int n = 1 + pick(5);
        due("letters(" + n + ")", bit(x.letters(n)), m.letters(n));
        for (int k = 0; k < 60 && !off; k++) {
            String text = pick(2) == 0 ? text(3) : spoiled(text(pick(2) == 0 ? 2 : 9));
            if (pick(4) == 0) text = pick(3) == 0 ? spoiled(wideCommutator()) : wideCommutator();
            if (text.length() > 380) text = text.substring(0, 380);
            tell(text, pick(3));
            ask(10);
            ask(13);
            ask(11);
            if (pick(6) == 0) act(14);
        }
    }

    private static void lowRun(int number) {
        start(number);
        present();
        if (pick(3) == 0) {
            int n = 1 + pick(3);
            due("letters(" + n + ")", bit(x.letters(n)), m.letters(n));
            for (int k = pick(3); k > 0; k--) tell(plainText(8), 0);
        }
        for (int q = 0; q < 3; q++) {
            int n = pick(8);
            due("low(" + n + ")", x.low(n), m.low(n));
            for (int k = -1; k < 3; k++) due("lowly(" + k + ")", x.lowly(k), m.lowly(k));
            for (int i = -1; i < 42; i++) {
                due("size(" + i + ")", x.size(i), m.size(i));
                due("normal(" + i + ")", x.normal(i), m.normal(i));
                for (int r = -1; r < 7; r++) for (int c = -1; c < 11; c++) due("small(" + i + "," + r + "," + c + ")", x.small(i, r, c), m.small(i, r, c));
            }
            ask(13);
        }
        sheetPart();
    }

    private static void sheetPart() {
        due("check()", x.check(), m.check());
        for (int i = 0; i < m.lows.size() && i < 6; i++) {
            int[][] l = m.lows.get(i);
            due("sheet(" + l.length + ")", bit(x.sheet(l.length)), m.sheet(l.length));
            for (int r = 0; r < l.length; r++)
                for (int c = 0; c < l[r].length; c++) {
                    due("put", bit(x.put(r, c, l[r][c])), m.put(r, c, l[r][c]));
                    if (pick(9) == 0) due("check()", x.check(), m.check());
                }
            due("check()", x.check(), m.check());
            if (pick(3) == 0) tell(plainText(4), 1);
            if (pick(3) == 0) tell(plainText(4), 0);
            due("check()", x.check(), m.check());
            int r = pick(l.length + 2) - 1, c = pick(12) - 1, v = pick(l.length + 2) - 1;
            due("put(" + r + "," + c + "," + v + ")", bit(x.put(r, c, v)), m.put(r, c, v));
            ask(13);
            due("check()", x.check(), m.check());
        }
        int n = pick(50) - 4;
        due("sheet(" + n + ")", bit(x.sheet(n)), m.sheet(n));
        ask(13);
        for (int r = 0; r < m.sheet.length; r++)
            for (int c = 0; c < 10; c++) {
                int v = pick(3) == 0 ? r : r ^ 1;
                if (v < m.sheet.length && pick(200) != 0) {
                    due("put(" + r + "," + c + "," + v + ")", bit(x.put(r, c, v)), m.put(r, c, v));
                    due("put(" + v + "," + (c ^ 1) + "," + r + ")", bit(x.put(v, c ^ 1, r)), m.put(v, c ^ 1, r));
                }
            }
        due("check()", x.check(), m.check());
    }

    /** Runs in which 2,000 rows are made: few do, so they are taken by name. */
    private static final int[] LONG_RUNS = {795, 1482, 1554, 3930, 5664};

    public static void main(String[] args) {
        int many = args.length > 0 ? Integer.parseInt(args[0]) : 250;
        for (int k = 1; k <= many && wrong < 5; k++) {
            tableRun(k);
            textRun(k);
            if (k % 3 == 0) strategyRun(k);
            if (k % 3 == 0) lowRun(k);
        }
        for (int k : LONG_RUNS) strategyRun(k);
        System.out.println(wrong == 0 ? "all answers are as the model's" : wrong + " runs are not as the model's");
        if (wrong != 0) System.exit(1);
    }
}
