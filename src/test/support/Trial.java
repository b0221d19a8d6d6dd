import java.lang.reflect.InvocationTargetException;
import java.lang.reflect.Method;
import java.util.ArrayList;
import java.util.Comparator;
import java.util.List;
import java.util.NoSuchElementException;
import java.util.function.Consumer;

/**
 * A new CosetHouse with the answers that are due told at each call. Its calls are counted, as the
 * document promises nothing behind the 512th.
 */
final class Trial {
    static final int NONE = -1;
    static final int EMPTY = -2;
    static final int MELTED = -3;
    static final int OPEN = -2;
    static final int RIGHT = -2;
    static final int LEAST_INT = Integer.MIN_VALUE;
    static final int MOST_INT = Integer.MAX_VALUE;

    private static final int MOST_CALLS = 512;
    private static final int BLANKS = 0x20202020;
    private static final String MARK = "   ?";
    private static final int MARK_PLACE = 3;

    private static String test = "";
    private static int wrong = 0;

    private final CosetHouse house = new CosetHouse();
    private int calls = 0;

    // ---- the tests of a class, by their names

    /** Runs all tests of a class; each subject must be the beginning of one test's name at least. */
    static void runAll(Class<?> tests, String... subjects) {
        List<Method> all = new ArrayList<>();
        for (Method m : tests.getDeclaredMethods()) if (m.getName().matches("(term|promise)\\d+_.*")) all.add(m);
        all.sort(Comparator.comparing(Method::getName));
        for (String subject : subjects) {
            test = subject;
            if (all.stream().noneMatch(m -> m.getName().startsWith(subject + "_"))) say("has no test");
        }
        for (Method m : all) runOne(m);
        System.out.println(all.size() + " tests, " + (wrong == 0 ? "all answers are as due" : wrong + " answers are not as due"));
        if (wrong != 0) System.exit(1);
    }

    private static void runOne(Method m) {
        test = m.getName();
        try {
            m.setAccessible(true);
            m.invoke(null, new Trial());
        } catch (InvocationTargetException e) {
            say("threw " + e.getCause());
        } catch (IllegalAccessException e) {
            say("can't be called: " + e);
        }
    }

    private static void say(String what) {
        wrong++;
        System.out.println(test + ": " + what);
    }

    // ---- the face

    private CosetHouse counted() {
        calls++;
        if (calls == MOST_CALLS + 1) say("makes more than " + MOST_CALLS + " calls on one object");
        return house;
    }

    int feed(int a, int b, int c, int d, int e) { return counted().feed(a, b, c, d, e); }
    boolean letters(int n) { return counted().letters(n); }
    int word(int n) { return counted().word(n); }
    int sub(int n) { return counted().sub(n); }
    boolean drop(boolean sub) { return counted().drop(sub); }
    int letter(int i, int k, boolean sub) { return counted().letter(i, k, sub); }
    int ask(int n) { return counted().ask(n); }
    int fault() { return counted().fault(); }
    boolean begin(int strategy, int rows) { return counted().begin(strategy, rows); }
    int step() { return counted().step(); }
    int run(int n) { return counted().run(n); }
    int cell(int row, int column) { return counted().cell(row, column); }
    int row(int i) { return counted().row(i); }
    int about(int what) { return counted().about(what); }
    int index() { return counted().index(); }
    boolean rename() { return counted().rename(); }
    int pack() { return counted().pack(); }
    int lead(int row) { return counted().lead(row); }
    int is() { return counted().is(); }
    int within() { return counted().within(); }
    int power() { return counted().power(); }
    int cycles(int letter, int length) { return counted().cycles(letter, length); }
    int least(int row) { return counted().least(row); }
    int farthest() { return counted().farthest(); }
    int tell(int sort, int i) { return counted().tell(sort, i); }
    int out(int i) { return counted().out(i); }
    int low(int n) { return counted().low(n); }
    int lowly(int what) { return counted().lowly(what); }
    int small(int i, int row, int column) { return counted().small(i, row, column); }
    int size(int i) { return counted().size(i); }
    int normal(int i) { return counted().normal(i); }
    boolean keep() { return counted().keep(); }
    boolean back() { return counted().back(); }
    boolean sheet(int n) { return counted().sheet(n); }
    boolean put(int row, int column, int v) { return counted().put(row, column, v); }
    int check() { return counted().check(); }
    int trouble() { return counted().trouble(); }
    int where() { return counted().where(); }

    /** The object itself, for what no run of calls comes to. */
    CosetHouse inside() { return house; }

    // ---- texts

    /** The text comes behind the TAPE, with blanks behind it up to the next twenty. */
    void tape(String text) {
        StringBuilder padded = new StringBuilder(text);
        while (padded.length() % 20 != 0) padded.append(' ');
        for (int k = 0; k < padded.length(); k += 20) {
            int[] n = new int[5];
            for (int q = 0; q < 20; q++) n[q / 4] = n[q / 4] << 8 | padded.charAt(k + q) & 255;
            feed(n[0], n[1], n[2], n[3], n[4]);
        }
    }

    int feedBlanks() { return feed(BLANKS, BLANKS, BLANKS, BLANKS, BLANKS); }
    int word(String text) { tape(text); return word(text.length()); }
    int sub(String text) { tape(text); return sub(text.length()); }
    int ask(String text) { tape(text); return ask(text.length()); }
    void words(String... texts) { for (String text : texts) word(text); }
    void subs(String... texts) { for (String text : texts) sub(text); }

    String spelled() {
        StringBuilder s = new StringBuilder();
        for (int k = 0; k < MOST_CALLS; k++) {
            try { s.append((char) out(k)); } catch (NoSuchElementException e) { return s.toString(); }
        }
        return s.toString();
    }

    // ---- what is due

    void due(String what, int got, int want) {
        if (got != want) say(what + " answered " + got + ", due is " + want);
    }

    void due(String what, boolean got, boolean want) {
        if (got != want) say(what + " answered " + got + ", due is " + want);
    }

    void due(String what, String got, String want) {
        if (!got.equals(want)) say(what + " is \"" + got + "\", due is \"" + want + "\"");
    }

    private void reason(String what, int why, int place) {
        due(what + ": trouble()", trouble(), why);
        due(what + ": where()", where(), place);
    }

    void agreed(String what, int got, int want) {
        due(what, got, want);
        reason(what, 0, NONE);
    }

    void agreed(String what, boolean got) {
        due(what, got, true);
        reason(what, 0, NONE);
    }

    void refused(String what, int got, int why) {
        due(what, got, NONE);
        reason(what, why, NONE);
    }

    void refused(String what, boolean got, int why) {
        due(what, got, false);
        reason(what, why, NONE);
    }

    void faulty(String what, int got, int fault, int place) {
        due(what, got, NONE);
        reason(what, 2, place);
        due(what + ": fault()", fault(), fault);
    }

    void faulty(String text, int fault, int place) {
        faulty("ask " + text, ask(text), fault, place);
    }

    void reads(String text, String want) {
        agreed("ask " + text, ask(text), want.length());
        due("ask " + text + ": fault()", fault(), 0);
        tell(2, 0);
        due("ask " + text + ": THE WORD", spelled(), want);
    }

    void spells(String what, String want) {
        due(what + ": OUT", spelled(), want);
    }

    void throwsNone(String what, int i) {
        boolean thrown = false;
        try { out(i); } catch (NoSuchElementException e) { thrown = true; }
        due(what + ": out(" + i + ") throws", thrown, true);
    }

    /** A FAULT, so that a call that leaves trouble() and where() alone can be told from one that does not. */
    void mark() { ask(MARK); }

    void marked(String what) { reason(what + ", which is never refused by a number", 2, MARK_PLACE); }

    void cells(String what, int[]... rows) {
        for (int r = 0; r < rows.length; r++)
            for (int c = 0; c < rows[r].length; c++) due(what + ": cell(" + r + ", " + c + ")", cell(r, c), rows[r][c]);
    }

    void abouts(String what, int... want) {
        for (int k = 0; k < want.length; k++) due(what + ": about(" + k + ")", about(k), want[k]);
    }

    void told(int[]... rows) {
        sheet(rows.length);
        for (int r = 0; r < rows.length; r++)
            for (int c = 0; c < rows[r].length; c++) put(r, c, rows[r][c]);
    }

    // ---- what a refused call leaves

    /** Of two objects with one story the one gets a call more: all but the reason is as with the other. */
    void leavesAll(String what, Consumer<Trial> story, Consumer<Trial> call) {
        Trial called = new Trial();
        Trial twin = new Trial();
        story.accept(called);
        story.accept(twin);
        call.accept(called);
        String[] got = called.picture().split("\n");
        String[] want = twin.picture().split("\n");
        for (int k = 0; k < Math.max(got.length, want.length); k++)
            due(what + ": what is left", k < got.length ? got[k] : "", k < want.length ? want[k] : "");
    }

    /** All that calls can tell but fault(), trouble() and where(); it uses the object up. */
    String picture() {
        StringBuilder s = new StringBuilder();
        s.append("OUT ").append(spelled());
        s.append("\nWORDS").append(list(false)).append("\nSUBWORDS").append(list(true));
        s.append("\ntable ").append(table());
        s.append("\nasked ").append(is()).append(' ').append(within()).append(' ').append(power());
        s.append("\nlow ").append(lows());
        s.append("\nsheet ").append(check());
        s.append("\nTHE WORD ").append(tell(2, 0)).append(' ').append(spelled());
        s.append("\nTAPE ").append(tapeNow());
        s.append("\nletters");
        for (String letter : new String[] {"a", "b", "c", "d", "e"}) s.append(' ').append(ask(letter));
        s.append("\ngoes on ").append(run(2000)).append(' ').append(table());
        s.append("\nKEPT ").append(back()).append(' ').append(table());
        return s.toString();
    }

    private String list(boolean sub) {
        StringBuilder s = new StringBuilder();
        for (int i = 0; letter(i, 0, sub) != NONE; i++) {
            s.append(' ');
            for (int k = 0; letter(i, k, sub) != NONE; k++) s.append(letter(i, k, sub));
        }
        return s.toString();
    }

    private String table() {
        StringBuilder s = new StringBuilder();
        for (int k = 0; k < 10; k++) s.append(about(k)).append(' ');
        for (int r = 0; r < about(8); r++) {
            s.append('/');
            for (int c = 0; cell(r, c) != NONE; c++) s.append(cell(r, c)).append(' ');
        }
        s.append("/ rows");
        for (int i = 0; i <= about(0); i++) s.append(' ').append(row(i));
        return s.toString();
    }

    private String lows() {
        StringBuilder s = new StringBuilder();
        s.append(lowly(0)).append(' ').append(lowly(1));
        for (int i = 0; size(i) != NONE; i++) {
            s.append('/').append(normal(i)).append(' ');
            for (int r = 0; r < size(i); r++) s.append(small(i, r, 0)).append(small(i, r, 1));
        }
        return s.toString();
    }

    private String tapeNow() {
        int now = feedBlanks();
        StringBuilder s = new StringBuilder();
        s.append(now).append(' ').append(ask(now == NONE ? 400 : now - 20)).append(' ').append(tell(2, 0));
        return s.append(' ').append(spelled()).toString();
    }

    // ---- stories

    /** The group of six: a^2, b^3, (ab)^2. */
    void six() {
        letters(2);
        words("a^2", "b^3", "(ab)^2");
    }

    /** All that an object can hold, but for a TAPE; the table goes on. */
    void open() {
        six();
        subs("a");
        ask("ab");
        begin(0, 300);
        run(2);
        keep();
        begin(1, 10);
        run(2);
        low(2);
        told(new int[] {0, 0, 0, 0});
        tell(0, 2);
    }

    /** As open(), but the table is CLOSED. */
    void closed() {
        open();
        run(2000);
    }

    /** As open(), but the table is SPENT. */
    void spent() {
        open();
        begin(0, 2);
        run(2000);
    }

    /** Two letters and no table. */
    void bare() {
        letters(2);
        ask("ba");
        low(1);
        told(new int[] {0, 0, 0, 0});
        tell(2, 0);
    }

    /** A CLOSED table of rows 0 and 1; rows 2 .. 9 melted in its second STEP. */
    void melted() {
        letters(1);
        word("a^2");
        sub("a^10");
        begin(2, 300);
        run(2);
    }

    /**
     * A CLOSED table of 252 rows: the corners of triangles that cover a surface, seven about each point.
     * Words turn them about almost as chance would, so that some have powers of ten digits; d is but a
     * shorter way to tell such a word.
     */
    void surface(int strategy) {
        letters(4);
        words("a^2", "b^2", "c^2", "(ab)^2", "(bc)^3", "(ac)^7", "D abcac");
        subs("cabcacabcabcacbcacbacacbacacbac", "abcacabcabcabcbacacbacbacacba", "acabcacabcacbcacacbacacbaca",
            "cacabcacabcacbacacbacacbacb", "cabcabcacbacacbacacaca");
        begin(strategy, 300);
        run(2000);
    }

    /** Rows 0, 1, 3 are left behind the first STEP: the second SUBWORD makes rows 1 and 2 one. */
    void gap(int strategy, int rows) {
        letters(3);
        subs("acbb", "abb");
        begin(strategy, rows);
        step();
    }
}
