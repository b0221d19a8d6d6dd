import java.util.ArrayList;
import java.util.Arrays;
import java.util.HashMap;
import java.util.List;
import java.util.Map;
import java.util.TreeMap;
import java.util.TreeSet;

/**
 * What the class answers beside what group theory does: groups that are known as turnings of a few
 * points, their cosets and small subgroups found by trying all. Nothing here goes by the document's
 * STEPS or TRIES, so a fault in the reading of those can't hide in it.
 */
public final class GroupTest {
    public static void main(String[] args) {
        Trial.runAll(GroupTest.class, "term3", "term4", "promise11", "promise16", "promise17", "promise20", "promise21",
            "promise22", "promise23", "promise24", "promise25", "promise28", "promise30", "promise32", "promise37");
    }

    // ---- turnings of points

    /** First one, then the other: as words are read. */
    private static int[] then(int[] one, int[] other) {
        int[] both = new int[one.length];
        for (int k = 0; k < one.length; k++) both[k] = other[one[k]];
        return both;
    }

    private static int[] turned(int[] p) {
        int[] q = new int[p.length];
        for (int k = 0; k < p.length; k++) q[p[k]] = k;
        return q;
    }

    private static int[] still(int points) {
        int[] p = new int[points];
        for (int k = 0; k < points; k++) p[k] = k;
        return p;
    }

    /** Of points 0 .. points - 1, by its cycles. */
    private static int[] cycles(int points, int[]... cycles) {
        int[] p = still(points);
        for (int[] c : cycles) for (int k = 0; k < c.length; k++) p[c[k]] = c[(k + 1) % c.length];
        return p;
    }

    private static int[] c(int... points) { return points; }

    private static List<Integer> key(int[] p) {
        List<Integer> k = new ArrayList<>();
        for (int v : p) k.add(v);
        return k;
    }

    /** A group that is told twice: by words that are nothing, and by a turning for each letter. */
    private static final class Group {
        final String name;
        final int order;
        final int[][] letters;
        final String[] words;
        final Map<List<Integer>, Integer> numbers = new HashMap<>();
        final List<int[]> elements = new ArrayList<>();

        Group(String name, int order, int[][] letters, String... words) {
            this.name = name;
            this.order = order;
            this.letters = letters;
            this.words = words;
            add(still(letters[0].length));
            for (int k = 0; k < elements.size(); k++) for (int[] g : letters) add(then(elements.get(k), g));
        }

        private void add(int[] p) {
            if (numbers.putIfAbsent(key(p), elements.size()) == null) elements.add(p);
        }

        int[] of(int column) { return column % 2 == 0 ? letters[column / 2] : turned(letters[column / 2]); }

        /** Of a plain text: letters alone. */
        int[] of(String plain) {
            int[] p = still(letters[0].length);
            for (char ch : plain.toCharArray()) p = then(p, of(columnOf(ch)));
            return p;
        }

        int columns() { return 2 * letters.length; }

        /** The cosets of what the plain texts make, as rows in the order in which they are met. */
        Cosets cosets(String... subs) {
            TreeSet<Integer> inside = new TreeSet<>(List.of(0));
            List<Integer> queue = new ArrayList<>(inside);
            for (int k = 0; k < queue.size(); k++)
                for (String s : subs) {
                    int next = numbers.get(key(then(elements.get(queue.get(k)), of(s))));
                    if (inside.add(next)) queue.add(next);
                }
            return new Cosets(this, inside);
        }
    }

    private static int columnOf(char ch) { return ch >= 'a' ? 2 * (ch - 'a') : 2 * (ch - 'A') + 1; }

    private static final class Cosets {
        final int[][] rows;
        final String[] least;

        Cosets(Group g, TreeSet<Integer> inside) {
            Map<Integer, Integer> rowOf = new HashMap<>();
            List<Integer> heads = new ArrayList<>();
            List<String> spelled = new ArrayList<>();
            List<int[]> found = new ArrayList<>();
            meet(g, inside, 0, "", rowOf, heads, spelled);
            for (int r = 0; r < heads.size(); r++) {
                int[] row = new int[g.columns()];
                for (int c = 0; c < row.length; c++) {
                    int next = g.numbers.get(key(then(g.elements.get(heads.get(r)), g.of(c))));
                    String word = spelled.get(r) + (char) ((c % 2 == 0 ? 'a' : 'A') + c / 2);
                    meet(g, inside, next, word, rowOf, heads, spelled);
                    row[c] = rowOf.get(next);
                }
                found.add(row);
            }
            rows = found.toArray(new int[0][]);
            least = spelled.toArray(new String[0]);
        }

        private static void meet(Group g, TreeSet<Integer> inside, int element, String word, Map<Integer, Integer> rowOf,
                                 List<Integer> heads, List<String> spelled) {
            if (rowOf.containsKey(element)) return;
            for (int h : inside) rowOf.put(g.numbers.get(key(then(g.elements.get(h), g.elements.get(element)))), heads.size());
            heads.add(element);
            spelled.add(word);
        }

        int lead(int row, String plain) {
            int at = row;
            for (char ch : plain.toCharArray()) at = rows[at][columnOf(ch)];
            return at;
        }

        /** How many cycles of each length a plain text has. */
        TreeMap<Integer, Integer> cyclesOf(String plain) {
            TreeMap<Integer, Integer> counts = new TreeMap<>();
            boolean[] seen = new boolean[rows.length];
            for (int r = 0; r < rows.length; r++) {
                int length = 0;
                for (int at = r; !seen[at]; at = lead(at, plain)) {
                    seen[at] = true;
                    length++;
                }
                if (length > 0) counts.merge(length, 1, Integer::sum);
            }
            return counts;
        }

        /** By going round and round until all rows are back. */
        int power(String plain) {
            int[] once = new int[rows.length];
            for (int r = 0; r < once.length; r++) once[r] = lead(r, plain);
            int[] many = once;
            int power = 1;
            while (!Arrays.equals(many, still(rows.length))) {
                many = then(many, once);
                power++;
            }
            return power;
        }
    }

    // ---- the groups

    /** A matrix of two rows over 0 .. p - 1, as what it does to the pairs that are not 0, 0. */
    private static int[] ofMatrix(int p, int m00, int m01, int m10, int m11) {
        int[] does = new int[p * p - 1];
        for (int x = 0; x < p; x++)
            for (int y = 0; y < p; y++)
                if (x + y > 0)
                    does[p * x + y - 1] = p * Math.floorMod(x * m00 + y * m10, p) + Math.floorMod(x * m01 + y * m11, p) - 1;
        return does;
    }

    private static int[] rotation(int points, int by) {
        int[] p = new int[points];
        for (int k = 0; k < points; k++) p[k] = (k + by) % points;
        return p;
    }

    private static int[] commutator(int[] x, int[] y) { return then(then(turned(x), turned(y)), then(x, y)); }

    /** What takes x, y, z to x + 1, y, z or to x, y + 1, z + x (of 0 .. 2): the least group of its kind. */
    private static int[] ofThree(boolean first) {
        int[] does = new int[27];
        for (int x = 0; x < 3; x++)
            for (int y = 0; y < 3; y++)
                for (int z = 0; z < 3; z++)
                    does[9 * x + 3 * y + z] = first ? 9 * ((x + 1) % 3) + 3 * y + z : 9 * x + 3 * ((y + 1) % 3) + (z + x) % 3;
        return does;
    }

    private static List<Group> groups() {
        List<Group> all = new ArrayList<>();
        all.add(new Group("one turning of seven", 7, new int[][] {rotation(7, 1)}, "a^7"));
        all.add(new Group("three things", 6, new int[][] {cycles(3, c(0, 1)), cycles(3, c(0, 1, 2))}, "a^2", "b^3", "(ab)^2"));
        all.add(new Group("four things, even", 12, new int[][] {cycles(4, c(0, 1), c(2, 3)), cycles(4, c(0, 1, 2))}, "a^2", "b^3", "(ab)^3"));
        all.add(new Group("four things", 24, new int[][] {cycles(4, c(0, 1)), cycles(4, c(1, 2, 3))}, "a^2", "b^3", "(ab)^4"));
        all.add(new Group("five things, even", 60, new int[][] {cycles(5, c(0, 1), c(2, 3)), cycles(5, c(0, 2, 4))}, "a^2", "b^3", "(ab)^5"));
        all.add(new Group("a square", 8, new int[][] {cycles(4, c(0, 1), c(2, 3)), cycles(4, c(1, 3))}, "a^2", "b^2", "(ab)^4"));
        all.add(new Group("a figure of nine", 18,
            new int[][] {cycles(9, c(1, 8), c(2, 7), c(3, 6), c(4, 5)), cycles(9, c(0, 1), c(2, 8), c(3, 7), c(4, 6))}, "a^2", "b^2", "(ab)^9"));
        all.add(new Group("quaternions", 8, new int[][] {ofMatrix(3, 0, 1, -1, 0), ofMatrix(3, 1, 1, 1, -1)}, "a^4", "a^2b^-2", "Baba"));
        all.add(new Group("matrices over three", 24, new int[][] {ofMatrix(3, 1, 1, -1, 0), ofMatrix(3, 1, -1, 1, 0)}, "a^3b^-3", "a^3(ab)^-2"));
        all.add(new Group("turnings that do not matter to one another", 60,
            new int[][] {cycles(12, c(0, 1, 2)), cycles(12, c(3, 4, 5, 6)), cycles(12, c(7, 8, 9, 10, 11))},
            "a^3", "b^4", "c^5", "[a,b]", "[a,c]", "[b,c]"));
        all.add(new Group("twenty-seven", 27, new int[][] {ofThree(true), ofThree(false), commutator(ofThree(true), ofThree(false))},
            "a^3", "b^3", "c^3", "[a,b]C", "[a,c]", "[b,c]"));
        all.add(new Group("five letters, each the sum of the two ahead", 11,
            new int[][] {rotation(11, 1), rotation(11, 4), rotation(11, 5), rotation(11, 9), rotation(11, 3)}, "abC", "bcD", "cdE", "deA", "eaB"));
        all.add(new Group("a cube with its mirrors", 48,
            new int[][] {cycles(6, c(0, 1), c(3, 4)), cycles(6, c(1, 2), c(4, 5)), cycles(6, c(2, 5))},
            "a^2", "b^2", "c^2", "(ab)^3", "(bc)^4", "(ac)^2"));
        all.add(new Group("five things", 120, new int[][] {cycles(5, c(0, 1)), cycles(5, c(1, 2)), cycles(5, c(2, 3)), cycles(5, c(3, 4))},
            "a^2", "b^2", "c^2", "d^2", "(ab)^3", "(bc)^3", "(cd)^3", "[a,c]", "[a,d]", "[b,d]"));
        all.add(new Group("the group of 168", 168,
            new int[][] {cycles(8, c(0, 7), c(1, 6), c(2, 3), c(4, 5)), cycles(8, c(0, 1, 7), c(2, 4, 6))}, "a^2", "b^3", "(ab)^7", "[a,b]^4"));
        return all;
    }

    /** The trivial subgroup, those of one, two and three letters, and of words. */
    private static List<String[]> subgroups(Group g) {
        List<String[]> all = new ArrayList<>(List.of(new String[0], new String[] {"a"}));
        if (g.letters.length > 1) all.addAll(List.of(new String[] {"b"}, new String[] {"abAB"}, new String[] {"a", "b"}, new String[] {"ab", "bA"}));
        if (g.letters.length > 3) all.add(new String[] {"a", "b", "c"});
        return all;
    }

    private static final String[] ASKED = {"", "a", "A", "b", "ab", "abAB", "aabb", "abaBABab", "bababababa", "aaaaaaa", "abd"};

    private static boolean fits(Group g, String plain) {
        for (char ch : plain.toCharArray()) if (columnOf(ch) >= g.columns()) return false;
        return true;
    }

    private static Trial told(Group g, String... subs) {
        Trial x = new Trial();
        x.letters(g.letters.length);
        x.words(g.words);
        x.subs(subs);
        return x;
    }

    private static Trial closed(Group g, int strategy, String... subs) {
        Trial x = told(g, subs);
        x.begin(strategy, 300);
        x.due(name(g, strategy, subs) + ": run(2000)", x.run(2000), 1);
        return x;
    }

    /** FILL has more than 300 rows at once ahead of the group of 168: this one alone is SPENT. */
    private static boolean hasRoom(Group g, int strategy, String... subs) {
        return g.order != 168 || strategy != 0 || subs.length > 0;
    }

    private static String name(Group g, int strategy, String... subs) {
        return g.name + ", " + Arrays.toString(subs) + ", strategy " + strategy;
    }

    // ---- the table

    static void term3_theTurningsAreOfTheGroupsThatAreTold(Trial x) {
        for (Group g : groups()) x.due(g.name + ": elements", g.elements.size(), g.order);
    }

    static void promise11_aTableThatClosesHasTheIndexThatIsRight(Trial x) {
        for (Group g : groups())
            for (int strategy = 0; strategy < 5; strategy++)
                for (String[] subs : subgroups(g)) {
                    int index = g.cosets(subs).rows.length;
                    Trial y = told(g, subs);
                    for (int more = 0; more < 20; more++) {
                        y.begin(strategy, Math.min(300, index + more));
                        int end = y.run(2000);
                        y.due(name(g, strategy, subs) + ": index() if CLOSED", y.index(), end == 1 ? index : Trial.NONE);
                    }
                }
    }

    static void promise11_fewerRowsThanTheIndexAreSpent(Trial x) {
        for (Group g : groups())
            for (int strategy = 0; strategy < 5; strategy++) {
                Trial y = told(g);
                y.begin(strategy, g.order - 1);
                y.due(name(g, strategy) + ": run(2000)", y.run(2000), 2);
            }
    }

    static void promise16_indexIsThatOfTheSubgroup(Trial x) {
        for (Group g : groups())
            for (int strategy = 0; strategy < 5; strategy++)
                for (String[] subs : subgroups(g)) {
                    if (!hasRoom(g, strategy, subs)) continue;
                    Trial y = closed(g, strategy, subs);
                    y.due(name(g, strategy, subs) + ": index()", y.index(), g.cosets(subs).rows.length);
                }
    }

    static void promise17_aRenamedTableIsTheOneOfTheCosets(Trial x) {
        for (Group g : groups())
            for (int strategy = 0; strategy < 5; strategy++)
                for (String[] subs : subgroups(g)) {
                    if (!hasRoom(g, strategy, subs)) continue;
                    Cosets cosets = g.cosets(subs);
                    int some = 480 / g.columns();
                    for (int from = 0; from < cosets.rows.length; from += some) {
                        Trial y = closed(g, strategy, subs);
                        y.rename();
                        for (int r = from; r < Math.min(from + some, cosets.rows.length); r++)
                            for (int c = 0; c < g.columns(); c++)
                                y.due(name(g, strategy, subs) + ": cell(" + r + ", " + c + ")", y.cell(r, c), cosets.rows[r][c]);
                    }
                }
    }

    static void promise20_aWordIsNothingIfItsTurningIs(Trial x) {
        for (Group g : groups()) {
            Trial y = closed(g, 1);
            for (String plain : ASKED) {
                if (!fits(g, plain) || plain.isEmpty()) continue;
                y.ask(plain);
                y.due(g.name + ", " + plain + ": is()", y.is(), Arrays.equals(g.of(plain), still(g.letters[0].length)) ? 1 : 0);
            }
            for (String word : g.words) {
                y.ask(word);
                y.due(g.name + ", " + word + ": is()", y.is(), 1);
            }
        }
    }

    static void promise20_withSubwordsAWordThatMovesNoRowIsOpen(Trial x) {
        for (Group g : groups())
            for (String[] subs : subgroups(g)) {
                if (subs.length == 0) continue;
                Cosets cosets = g.cosets(subs);
                Trial y = closed(g, 0, subs);
                for (String plain : ASKED) {
                    if (!fits(g, plain) || plain.isEmpty()) continue;
                    y.ask(plain);
                    y.due(name(g, 0, subs) + ", " + plain + ": is()", y.is(), cosets.power(plain) == 1 ? Trial.OPEN : 0);
                }
            }
    }

    static void promise21_aWordIsInTheSubgroupIfItLeadsBack(Trial x) {
        for (Group g : groups())
            for (String[] subs : subgroups(g)) {
                Cosets cosets = g.cosets(subs);
                Trial y = closed(g, 1, subs);
                y.rename();
                for (String plain : ASKED) {
                    if (!fits(g, plain) || plain.isEmpty()) continue;
                    y.ask(plain);
                    y.due(name(g, 1, subs) + ", " + plain + ": within()", y.within(), cosets.lead(0, plain) == 0 ? 1 : 0);
                    int last = cosets.rows.length - 1;
                    y.due(name(g, 1, subs) + ", " + plain + ": lead()", y.lead(last), cosets.lead(last, plain));
                }
            }
    }

    static void promise22_powerIsTheOneThatGoingRoundFinds(Trial x) {
        for (Group g : groups())
            for (String[] subs : subgroups(g)) {
                Cosets cosets = g.cosets(subs);
                Trial y = closed(g, 2, subs);
                for (String plain : ASKED) {
                    if (!fits(g, plain)) continue;
                    y.ask(plain.isEmpty() ? "1" : plain);
                    y.due(name(g, 2, subs) + ", " + plain + ": power()", y.power(), cosets.power(plain));
                }
            }
    }

    static void promise23_cyclesAreThoseOfTheTurnings(Trial x) {
        for (Group g : groups())
            for (String[] subs : subgroups(g)) {
                Cosets cosets = g.cosets(subs);
                Trial y = closed(g, 3, subs);
                for (int letter = 0; letter < g.letters.length; letter++) {
                    TreeMap<Integer, Integer> counts = cosets.cyclesOf("" + (char) ('a' + letter));
                    for (int length = 0; length <= 12; length++)
                        y.due(name(g, 3, subs) + ": cycles(" + letter + ", " + length + ")", y.cycles(letter, length),
                            counts.getOrDefault(length, 0));
                }
            }
    }

    static void promise24_leastWordsAreThoseMetFirst(Trial x) {
        for (Group g : groups())
            for (int strategy = 0; strategy < 5; strategy++) {
                String[] subs = subgroups(g).get(Math.min(4 - strategy, subgroups(g).size() - 1));
                Cosets cosets = g.cosets(subs);
                for (int r = 0; r < cosets.rows.length; r++) {
                    Trial y = closed(g, strategy, subs);
                    y.rename();
                    y.due(name(g, strategy, subs) + ": least(" + r + ")", y.least(r), cosets.least[r].length());
                    y.spells(name(g, strategy, subs) + ": least(" + r + ")", cosets.least[r]);
                }
            }
    }

    static void promise25_farthestIsTheFirstOfTheLongest(Trial x) {
        for (Group g : groups())
            for (String[] subs : subgroups(g)) {
                Cosets cosets = g.cosets(subs);
                int far = 0;
                for (int r = 0; r < cosets.rows.length; r++) if (cosets.least[r].length() > cosets.least[far].length()) far = r;
                Trial y = closed(g, 4, subs);
                y.rename();
                y.due(name(g, 4, subs) + ": farthest()", y.farthest(), far);
            }
    }

    static void promise37_theTableOfTheCosetsIsRight(Trial x) {
        for (Group g : groups())
            for (String[] subs : subgroups(g)) {
                Cosets cosets = g.cosets(subs);
                if (cosets.rows.length > 40) continue;
                Trial y = told(g, subs);
                y.told(cosets.rows);
                y.due(g.name + ", " + Arrays.toString(subs) + ": check()", y.check(), Trial.RIGHT);
            }
    }

    // ---- small subgroups, by trying all turnings of a few points for all letters

    private static List<int[]> allTurnings(int points) {
        List<int[]> all = new ArrayList<>();
        collect(new int[points], 0, 0, all);
        return all;
    }

    private static void collect(int[] p, int at, int used, List<int[]> all) {
        if (at == p.length) all.add(p.clone());
        for (int v = 0; at < p.length && v < p.length; v++)
            if ((used >> v & 1) == 0) {
                p[at] = v;
                collect(p, at + 1, used | 1 << v, all);
            }
    }

    private static boolean isNothing(int[][] letters, String plain) {
        for (int point = 0; point < letters[0].length; point++) {
            int at = point;
            for (char ch : plain.toCharArray()) at = letters[columnOf(ch)][at];
            if (at != point) return false;
        }
        return true;
    }

    /** The table from a point on, row by row in the order in which points are met; null if not all are. */
    private static List<Integer> tableFrom(int[][] columns, int first) {
        List<Integer> met = new ArrayList<>(List.of(first));
        List<Integer> table = new ArrayList<>();
        for (int k = 0; k < met.size(); k++)
            for (int[] column : columns) {
                int next = column[met.get(k)];
                if (!met.contains(next)) met.add(next);
                table.add(met.indexOf(next));
            }
        return met.size() == columns[0].length ? table : null;
    }

    private static int compare(List<Integer> one, List<Integer> other) {
        for (int k = 0; k < Math.min(one.size(), other.size()); k++)
            if (!one.get(k).equals(other.get(k))) return one.get(k) - other.get(k);
        return one.size() - other.size();
    }

    /** The least table of each small subgroup, with how many tables turning about makes of it. */
    private static TreeMap<List<Integer>, Integer> smallOnes(int letters, int most, String... plains) {
        TreeMap<List<Integer>, Integer> found = new TreeMap<>(GroupTest::compare);
        for (int points = 1; points <= most; points++) {
            List<int[]> all = allTurnings(points);
            int[] picks = new int[letters];
            for (boolean more = true; more; more = next(picks, all.size())) {
                int[][] columns = new int[2 * letters][];
                for (int k = 0; k < letters; k++) {
                    columns[2 * k] = all.get(picks[k]);
                    columns[2 * k + 1] = turned(columns[2 * k]);
                }
                if (Arrays.stream(plains).allMatch(plain -> isNothing(columns, plain))) addLeast(columns, found);
            }
        }
        return found;
    }

    private static boolean next(int[] picks, int below) {
        for (int k = 0; k < picks.length; k++) {
            picks[k]++;
            if (picks[k] < below) return true;
            picks[k] = 0;
        }
        return false;
    }

    private static void addLeast(int[][] columns, TreeMap<List<Integer>, Integer> found) {
        TreeSet<List<Integer>> tables = new TreeSet<>(GroupTest::compare);
        for (int first = 0; first < columns[0].length; first++) {
            List<Integer> table = tableFrom(columns, first);
            if (table == null) return;
            tables.add(table);
        }
        found.put(tables.first(), tables.size());
    }

    private static final class Small {
        final int letters;
        final int most;
        final String[] words;
        final String[] plains;
        final int[] known;
        Small(int letters, int most, String[] words, String[] plains, int... known) {
            this.letters = letters;
            this.most = most;
            this.words = words;
            this.plains = plains;
            this.known = known;
        }
    }

    private static String[] texts(String... all) { return all; }

    /** With how many subgroups of each index, up to turning about, are known of them. */
    private static List<Small> smalls() {
        return List.of(
            new Small(1, 6, texts(), texts(), 1, 1, 1, 1, 1, 1),
            new Small(1, 6, texts("a^6"), texts("aaaaaa"), 1, 1, 1, 0, 0, 1),
            new Small(2, 4, texts(), texts(), 1, 3, 7, 26),
            new Small(2, 6, texts("[a,b]"), texts("ABab"), 1, 3, 4, 7, 6, 12),
            new Small(2, 6, texts("a^2", "b^3"), texts("aa", "bbb"), 1, 1, 2, 2, 1, 8),
            new Small(2, 6, texts("a^2", "b^2"), texts("aa", "bb"), 1, 3, 1, 3, 1, 3),
            new Small(2, 6, texts("a^2", "b^3", "(ab)^4"), texts("aa", "bbb", "abababab"), 1, 1, 1, 1, 0, 3),
            new Small(2, 6, texts("a^2", "b^3", "(ab)^5"), texts("aa", "bbb", "ababababab"), 1, 0, 0, 0, 1, 1),
            new Small(2, 6, texts("a^4", "a^2b^-2", "Baba"), texts("aaaa", "aaBB", "Baba"), 1, 3, 0, 1, 0, 0),
            new Small(3, 3, texts("a^2", "b^2", "c^2"), texts("aa", "bb", "cc"), 1, 7, 7));
    }

    static void term4_asManyAreFoundAsAreKnown(Trial x) {
        for (Small s : smalls()) {
            Trial y = new Trial();
            y.letters(s.letters);
            y.words(s.words);
            int due = 0;
            for (int n = 1; n <= s.most; n++) {
                due += s.known[n - 1];
                y.due(Arrays.toString(s.words) + ": low(" + n + ")", y.low(n), due);
                y.due(Arrays.toString(s.words) + ": lowly(1)", y.lowly(1), 0);
            }
        }
    }

    static void promise28_asManyAreFoundAsTryingAllTurningsFinds(Trial x) {
        for (Small s : smalls()) {
            Trial y = new Trial();
            y.letters(s.letters);
            y.words(s.words);
            y.due(Arrays.toString(s.words) + ": low(" + s.most + ")", y.low(s.most), smallOnes(s.letters, s.most, s.plains).size());
        }
    }

    static void promise30_theyAreTheLeastTablesInOrder(Trial x) {
        for (Small s : smalls()) {
            int i = 0;
            for (List<Integer> table : smallOnes(s.letters, s.most, s.plains).keySet()) {
                Trial y = new Trial();
                y.letters(s.letters);
                y.words(s.words);
                y.low(s.most);
                if (i < 40) {
                    int columns = 2 * s.letters;
                    y.due(Arrays.toString(s.words) + ": size(" + i + ")", y.size(i), table.size() / columns);
                    for (int k = 0; k < table.size(); k++)
                        y.due(Arrays.toString(s.words) + ": small(" + i + ", " + k / columns + ", " + k % columns + ")",
                            y.small(i, k / columns, k % columns), table.get(k));
                }
                i++;
            }
        }
    }

    static void promise32_normalOnesAreThoseThatTurningAboutLeaves(Trial x) {
        for (Small s : smalls()) {
            Trial y = new Trial();
            y.letters(s.letters);
            y.words(s.words);
            y.low(s.most);
            int i = 0;
            for (int tables : smallOnes(s.letters, s.most, s.plains).values()) {
                if (i < 40) y.due(Arrays.toString(s.words) + ": normal(" + i + ")", y.normal(i), tables == 1 ? 1 : 0);
                i++;
            }
        }
    }
}
