import java.util.NoSuchElementException;

/** The promises by their numbers: ordinary inputs, the edges that the document names, wrong inputs. */
public final class PromiseTest {
    private static int wrong = 0;
    private static int promise = 0;
    private static CosetHouse x;

    private static void due(String call, int got, int want) {
        if (got != want) {
            wrong++;
            System.out.println("promise " + promise + ": " + call + " answered " + got + ", due is " + want);
        }
    }

    private static void due(String call, boolean got, boolean want) {
        due(call, got ? 1 : 0, want ? 1 : 0);
    }

    private static void refused(String call, int got, int why) {
        due(call, got, -1);
        due(call + ", trouble()", x.trouble(), why);
    }

    private static void refused(String call, boolean got, int why) {
        due(call, got, false);
        due(call + ", trouble()", x.trouble(), why);
    }

    private static void agreed(String call, boolean got) {
        due(call, got, true);
        due(call + ", trouble()", x.trouble(), 0);
    }

    private static void agreed(String call, int got, int want) {
        due(call, got, want);
        due(call + ", trouble()", x.trouble(), 0);
    }

    private static int feed(String text) {
        StringBuilder padded = new StringBuilder(text);
        while (padded.length() % 20 != 0) padded.append(' ');
        for (int k = 0; k < padded.length(); k += 20) {
            int[] n = new int[5];
            for (int q = 0; q < 20; q++) n[q / 4] = n[q / 4] << 8 | padded.charAt(k + q);
            x.feed(n[0], n[1], n[2], n[3], n[4]);
        }
        return text.length();
    }

    private static int word(String text) { return x.word(feed(text)); }
    private static int sub(String text) { return x.sub(feed(text)); }
    private static int ask(String text) { return x.ask(feed(text)); }

    private static String out() {
        StringBuilder s = new StringBuilder();
        for (int k = 0; k < 1000; k++) {
            try { s.append((char) x.out(k)); } catch (NoSuchElementException e) { return s.toString(); }
        }
        return s.toString();
    }

    private static void spells(String want) {
        String got = out();
        if (!got.equals(want)) {
            wrong++;
            System.out.println("promise " + promise + ": OUT is " + got + ", due is " + want);
        }
    }

    private static void reads(String text, String want) {
        due("ask " + text, ask(text), want.length());
        due("ask " + text + ", fault()", x.fault(), 0);
        x.tell(2, 0);
        spells(want);
    }

    private static void faulty(String text, int fault, int place) {
        refused("ask " + text, ask(text), 2);
        due("ask " + text + ", fault()", x.fault(), fault);
        due("ask " + text + ", where()", x.where(), place);
    }

    private static void fresh(int number, int letters, String... words) {
        promise = number;
        x = new CosetHouse();
        x.letters(letters);
        for (String w : words) word(w);
    }

    // ---- words

    private static void newObject() {
        promise = 1;
        x = new CosetHouse();
        due("trouble()", x.trouble(), 0);
        due("where()", x.where(), -1);
        due("tell(0, 0)", x.tell(0, 0), -1);
        due("tell(1, 0)", x.tell(1, 0), -1);
        due("tell(2, 0)", x.tell(2, 0), 0);
        due("step()", x.step(), -1);
        due("ask a", ask("a"), 1);
        due("ask b", ask("b"), -1);
    }

    private static void feedPromise() {
        fresh(2, 2);
        for (int k = 1; k <= 20; k++) due("feed", x.feed(0x61416241, 0x42616142, 0x61624142, 0x61626162, 0x20202020), 20 * k);
        due("feed beyond 400", x.feed(0, 0, 0, 0, 0), -1);
        due("word(5)", x.word(5), 3);
        x.tell(0, 0);
        spells("bAB");
        due("feed", x.feed(0x80FF0001, 0, 0, 0, 0), 20);
        refused("word(4)", x.word(4), 2);
        due("where()", x.where(), 0);
        feed("ab");
        x.feed(0x6162, 0, 0, 0, 0);
        due("word(20)", x.word(20), 2);
    }

    private static void lettersPromise() {
        fresh(3, 2, "a^2", "b^3");
        sub("a");
        ask("ab");
        x.begin(0, 10);
        refused("letters(0)", x.letters(0), 1);
        refused("letters(6)", x.letters(6), 1);
        due("what was stays", x.about(0), 1);
        due("tell(0, 1)", x.tell(0, 1), 3);
        x.feed(0x61202020, 0x20202020, 0x20202020, 0x20202020, 0x20202020);
        agreed("letters(5)", x.letters(5));
        due("the TAPE stays", x.word(1), 1);
        x.letters(5);
        due("tell(0, 0)", x.tell(0, 0), -1);
        due("tell(1, 0)", x.tell(1, 0), -1);
        due("tell(2, 0)", x.tell(2, 0), 0);
        due("about(0)", x.about(0), -1);
        due("word abcdeABCDE", word("abcdEDCBA"), 9);
        agreed("letters(1)", x.letters(1));
        refused("word b", word("b"), 2);
    }

    private static void wordPromise() {
        fresh(4, 2);
        due("word", word("a b B b"), 2);
        x.begin(0, 10);
        agreed("an empty one", word("aA"), 0);
        due("changes nothing", x.about(0), 1);
        agreed("an empty one", word("1"), 0);
        agreed("a long commutator, no times", word("[a^20,b]^0"), 0);
        due("isn't kept", x.tell(0, 1), -1);
        agreed("word b", word("b"), 1);
        due("the table is gone", x.about(0), -1);
        x.begin(0, 10);
        refused("a fault", word("b)"), 2);
        due("where()", x.where(), 1);
        due("fault()", x.fault(), 1);
        due("the table stays", x.about(0), 1);
        due("the TAPE is empty", x.feed(0, 0, 0, 0, 0), 20);
        refused("word(-1)", x.word(-1), 1);
        refused("word(21)", x.word(21), 1);
        due("the TAPE stays", x.feed(0, 0, 0, 0, 0), 40);
        due("where()", x.where(), -1);
        refused("word(0)", x.word(0), 2);
        due("where()", x.where(), 0);
        for (int k = 2; k < 12; k++) agreed("word " + k, word("ab"), 2);
        refused("a thirteenth", word("ab"), 3);
        refused("an empty thirteenth", word("1"), 3);
        refused("a faulty thirteenth", word("?"), 2);
        x.drop(false);
        agreed("a twelfth", word("ab".repeat(20)), 40);
    }

    private static void texts() {
        fresh(4, 3);
        reads("[a,b]", "ABab");
        reads("[a b,c]", "BACabc");
        reads("(ab)^-2", "BABA");
        reads("(ab)^0", "");
        reads("(abA)^3", "abbbA");
        reads(" a ^ - 2 ( 1 ) b ", "AAb");
        reads("[a,1]", "");
        reads("[a^40,a]", "");
        reads("[[a,b],c]", "BAbaCABabc");
        reads("[a^20,b]^0", "");
        reads("c [a^20,b] ^ - 0 b", "cb");
        reads("[a^40,b^40]^00 a", "a");
        reads("([a^20,b]^0 c)^3", "ccc");
        reads("[[a^20,b]^0,c]", "");
        reads("[a^19,b]", "A".repeat(19) + "B" + "a".repeat(19) + "b");
        reads("[a^19,b]^-1", "B" + "A".repeat(19) + "b" + "a".repeat(19));
        reads("[a^20,a^39]^2", "");
        reads("a^007", "aaaaaaa");
        reads("a^-0", "");
        reads("((((((((a))))))))", "a");
        reads("(a^30)(A^30)b", "b");
        reads("abBA c", "c");
        reads("(ab)^20", "ab".repeat(20));
        faulty("", 1, 0);
        faulty("   ", 1, 3);
        faulty("d", 1, 0);
        faulty("abD", 1, 2);
        faulty("1a", 1, 1);
        faulty("1^2", 1, 1);
        faulty("a1", 1, 1);
        faulty("11", 1, 1);
        faulty("()", 1, 1);
        faulty("(a", 1, 2);
        faulty("(a]", 1, 2);
        faulty("[a]", 1, 2);
        faulty("[a,]", 1, 3);
        faulty("[a,b", 1, 4);
        faulty("[a,b)", 1, 4);
        faulty("[a,b,c]", 1, 4);
        faulty("a,b", 1, 1);
        faulty("a)", 1, 1);
        faulty("a^", 1, 2);
        faulty("a^ -", 1, 4);
        faulty("a^b", 1, 2);
        faulty("a^1 2", 1, 4);
        faulty("a^--1", 1, 3);
        faulty("a^2^2", 1, 3);
        faulty("^2", 1, 0);
        faulty("a\u00e9", 1, 1);
        faulty("a^41", 2, 0);
        faulty("b a^20 a^20", 2, 7);
        faulty("(a^39b)^2", 2, 0);
        faulty("a(a^30a^30", 2, 6);
        faulty("[a^20,b]", 2, 0);
        faulty("c [a^30,b]", 2, 2);
        faulty(" [a^20,b]^1", 2, 1);
        faulty("a [a^20,b]^-1", 2, 2);
        faulty("[a^20,b]^0 c^41", 2, 11);
        faulty("[[a^20,b],c]^0", 2, 1);
        faulty("([a^20,b])^0", 2, 1);
        faulty("B [a^20,b] B", 2, 2);
        faulty("[a^20,b]^", 1, 9);
        faulty("[a^20,b]^c", 1, 9);
        faulty("[a^20,b]^2^0", 2, 0);
        faulty("[a^20,b]^0^0", 1, 10);
        faulty("[a^20,b]?", 2, 0);
        faulty("[a^20,b", 1, 7);
        faulty("[a^20,b]^100", 4, 9);
        faulty("[a^41,b]^0", 2, 1);
        faulty("[a,b^41]^0", 2, 3);
        faulty("a^41?", 2, 0);
        faulty("((((((((( a", 3, 8);
        faulty("[[[[[[[[a,(b),c", 3, 10);
        faulty("a^(((((((((", 1, 2);
        faulty("a^100", 4, 2);
        faulty("a^ - 0100", 4, 5);
        faulty("a^99999999999999999999", 4, 2);
        faulty("a^99", 2, 0);
        reads(" ".repeat(380) + "a", "a");
    }

    private static void subPromise() {
        fresh(5, 2);
        due("sub", sub("ab"), 2);
        x.begin(0, 10);
        agreed("an empty one", sub("1"), 0);
        agreed("a long commutator, no times", sub("[a^20,b]^0"), 0);
        due("the table stays", x.about(0), 1);
        agreed("sub", sub("b"), 1);
        due("the table is gone", x.about(0), -1);
        due("a SUBWORD is no WORD", x.tell(0, 0), -1);
        refused("sub(21)", x.sub(21), 1);
        refused("a fault", sub("a^"), 2);
        due("where()", x.where(), 2);
        for (int k = 2; k < 6; k++) due("sub", sub("a"), 1);
        refused("a seventh", sub("a"), 3);
        refused("an empty seventh", sub("1"), 3);
        due("letter", x.letter(0, 1, true), 2);
    }

    private static void dropPromise() {
        fresh(6, 2, "a", "b^2");
        sub("ab");
        refused("drop(true) twice", x.drop(true) && x.drop(true), 4);
        due("WORDS stay", x.tell(0, 1), 2);
        x.begin(0, 10);
        agreed("drop(false)", x.drop(false));
        due("the table is gone", x.about(0), -1);
        due("tell(0, 1)", x.tell(0, 1), -1);
        due("tell(0, 0)", x.tell(0, 0), 1);
        due("drop(false)", x.drop(false), true);
        x.begin(0, 10);
        refused("drop(false)", x.drop(false), 4);
        due("the table stays", x.about(0), 1);
    }

    private static void letterPromise() {
        fresh(7, 5, "aBcDe", "E");
        sub("Ab");
        int[] want = {0, 3, 4, 7, 8, -1};
        for (int k = 0; k < 6; k++) due("letter(0, " + k + ")", x.letter(0, k, false), want[k]);
        due("letter(1, 0)", x.letter(1, 0, false), 9);
        due("letter(0, 0, true)", x.letter(0, 0, true), 1);
        due("letter(1, 0, true)", x.letter(1, 0, true), -1);
        due("letter(2, 0)", x.letter(2, 0, false), -1);
        due("letter(-1, 0)", x.letter(-1, 0, false), -1);
        due("letter(0, -1)", x.letter(0, -1, false), -1);
    }

    private static void askPromise() {
        fresh(8, 2, "a");
        due("at first", x.tell(2, 0), 0);
        x.begin(0, 10);
        agreed("ask", ask("ab"), 2);
        due("the table stays", x.about(0), 1);
        refused("ask(1)", x.ask(1), 1);
        refused("a fault", ask("a^"), 2);
        due("THE WORD stays", x.tell(2, 0), 2);
        due("the TAPE is empty", x.feed(0, 0, 0, 0, 0), 20);
        x.ask(0);
        agreed("an empty one", ask("1"), 0);
        due("THE WORD", x.tell(2, 0), 0);
    }

    private static void faultPromise() {
        promise = 9;
        x = new CosetHouse();
        due("ahead of any", x.fault(), 0);
        word("a^100");
        due("word", x.fault(), 4);
        x.word(1);
        due("refused by 1", x.fault(), 4);
        sub("a^50");
        due("sub", x.fault(), 2);
        for (int k = 0; k < 6; k++) sub("a");
        due("sub", x.fault(), 0);
        ask("(((((((((");
        due("ask", x.fault(), 3);
        x.letters(2);
        due("letters() is none of them", x.fault(), 3);
        for (int k = 0; k < 12; k++) word("a");
        ask("(");
        due("ask", x.fault(), 1);
        word("a");
        due("refused by 3", x.fault(), 0);
    }

    // ---- the table

    private static void beginPromise() {
        fresh(10, 2, "a^2");
        agreed("begin(4, 1)", x.begin(4, 1));
        due("row 0 alone", x.about(0), 1);
        due("steps", x.about(4), 0);
        due("its cells", x.cell(0, 3), -2);
        x.step();
        refused("begin(5, 1)", x.begin(5, 1), 1);
        refused("begin(-1, 1)", x.begin(-1, 1), 1);
        refused("begin(0, 0)", x.begin(0, 0), 1);
        refused("begin(0, 301)", x.begin(0, 301), 1);
        due("what was stays", x.about(4), 1);
        agreed("begin(0, 300)", x.begin(0, 300));
        due("anew", x.about(4), 0);
        fresh(10, 1);
        x.begin(0, 300);
        due("300 at once", x.run(2000), 2);
        due("rows", x.about(0), 300);
    }

    private static void stepPromise() {
        fresh(11, 1);
        refused("step()", x.step(), 5);
        x.begin(0, 2);
        agreed("the first", x.step(), 0);
        due("rows", x.about(0), 1);
        agreed("SPENT", x.step(), 2);
        due("its one row made", x.about(0), 2);
        agreed("the same is told", x.step(), 2);
        due("nothing is done", x.about(4), 2);
        sub("a");
        x.begin(1, 1);
        agreed("CLOSED by SUBWORDS alone", x.step(), 1);
        agreed("the same is told", x.step(), 1);
        due("nothing is done", x.about(4), 1);
    }

    /** LOOK with no empty cell, and quarrels: a^3 in row 0, a^2 of all rows. */
    private static void lookWithoutEmptyCell() {
        for (int s = 0; s < 5; s++) {
            fresh(11, 1, "a^2");
            sub("a^3");
            x.begin(s, 300);
            due("first, " + s, x.step(), 0);
            due("rows, " + s, x.about(0), 3);
            due("empty, " + s, x.about(5), 0);
            due("second, " + s, x.step(), 1);
            due("index, " + s, x.index(), 1);
            due("made, " + s, x.about(1), 3);
            due("melted, " + s, x.about(2), 2);
            due("most, " + s, x.about(3), 3);
            due("cell(0, 0), " + s, x.cell(0, 0), 0);
            due("cell(1, 0), " + s, x.cell(1, 0), -3);
            due("cell(3, 0), " + s, x.cell(3, 0), -1);
        }
    }

    /** By each strategy the group of 60 with its subgroup of 5 comes to the same 12 rows. */
    private static void strategies() {
        int[] first = new int[48];
        for (int s = 0; s < 5; s++) {
            fresh(11, 2, "a^2", "b^3", "(ab)^5");
            sub("ab");
            x.begin(s, 300);
            due("run, " + s, x.run(2000), 1);
            due("index, " + s, x.index(), 12);
            x.rename();
            due("cell(0, 0), " + s, x.cell(0, 0), 1);
            due("cell(0, 2), " + s, x.cell(0, 2), 2);
            due("cell(0, 3), " + s, x.cell(0, 3), 1);
            for (int k = 0; k < 48; k++) {
                if (s == 0) first[k] = x.cell(k / 4, k % 4);
                due("cell, " + s, x.cell(k / 4, k % 4), first[k]);
            }
        }
    }

    /** What a STEP makes: of FILL a row's cells, of LOOK one row, of MIXED one and the other by turns. */
    private static void stepsOfStrategies() {
        int[][] rows = {{1, 5, 8, 11}, {1, 2, 3, 4}, {1, 5, 8, 11}, {1, 5, 6, 8}, {1, 5, 8, 11}};
        for (int s = 0; s < 5; s++) {
            fresh(11, 2);
            x.begin(s, 300);
            for (int k = 0; k < 4; k++) {
                due("step, " + s, x.step(), 0);
                due("rows, " + s, x.about(0), rows[s][k]);
            }
        }
        fresh(11, 2, "a^3");
        x.begin(0, 300);
        x.run(2);
        due("FILL of a^3, then NEW for b and B", x.about(0), 5);
        due("by columns", x.cell(0, 3), 4);
        due("the forward end", x.cell(1, 0), 2);
        due("the last letter is PUT", x.cell(2, 0), 0);
        x.begin(1, 300);
        x.run(3);
        due("LOOK: the second NEW", x.cell(0, 1), 2);
        due("LOOK: then CLOSE", x.cell(1, 0), 2);
    }

    /** SMALL lives in fewer rows than FILL: it closes and packs where FILL is SPENT. */
    private static void smallStrategy() {
        fresh(11, 1, "a^2");
        sub("a^8");
        x.begin(0, 4);
        due("FILL", x.step(), 2);
        due("rows", x.about(0), 4);
        x.begin(4, 4);
        due("SMALL", x.step(), 1);
        due("index", x.about(0), 2);
        due("PACKS", x.about(7), 1);
        due("next", x.about(8), 2);
        due("made", x.about(1), 4);
        x.begin(4, 300);
        due("with room", x.step(), 0);
        due("made", x.about(1), 8);
        due("PACKS", x.about(7), 0);
        x.letters(1);
        x.begin(4, 3);
        due("no rows melted", x.run(2000), 2);
        due("PACKS", x.about(7), 0);
    }

    /** Rows melt nearly as fast as they are made, so 2,000 made end it ahead of the rows at once. */
    private static void madeInAll() {
        int[][] want = {{263, 82}, {376, 254}, {748, 253}};
        for (int k = 0; k < 3; k++) {
            int s = k == 0 ? 0 : k + 1;
            fresh(11, 4, "AdCC", "ACCa", "ADbaCBAD", "D");
            sub("d");
            x.begin(s, 286);
            due("SPENT, " + s, x.run(2000), 2);
            due("made, " + s, x.about(1), 2000);
            due("steps, " + s, x.about(4), want[k][0]);
            due("rows, " + s, x.about(0), want[k][1]);
        }
    }

    private static void runPromise() {
        fresh(12, 2, "a^2", "b^3", "(ab)^2");
        refused("run(0)", x.run(0), 5);
        x.begin(0, 300);
        refused("run(0)", x.run(0), 1);
        refused("run(2001)", x.run(2001), 1);
        due("nothing is done", x.about(4), 0);
        agreed("run(3)", x.run(3), 0);
        due("steps", x.about(4), 3);
        agreed("run(2000)", x.run(2000), 1);
        due("as long as it goes on", x.about(4), 5);
        agreed("run(1)", x.run(1), 1);
        x.begin(0, 3);
        agreed("SPENT", x.run(2000), 2);
    }

    private static void cellPromise() {
        fresh(13, 2);
        due("no table", x.cell(0, 0), -1);
        x.begin(1, 10);
        x.step();
        x.step();
        due("cell(0, 0)", x.cell(0, 0), 1);
        due("cell(1, 1)", x.cell(1, 1), 0);
        due("empty", x.cell(0, 1), -2);
        due("no such column", x.cell(0, 4), -1);
        due("no such column", x.cell(0, -1), -1);
        due("no such row", x.cell(2, 0), -1);
        due("no such row", x.cell(-1, 0), -1);
        melted();
        due("melted", x.cell(2, 0), -3);
        due("melted, no such column", x.cell(2, 2), -1);
        due("beyond", x.cell(10, 0), -1);
    }

    /** A CLOSED table of rows 0 and 1; 2 .. 9 melted in its second step. */
    private static void melted() {
        x.letters(1);
        word("a^2");
        sub("a^10");
        x.begin(2, 300);
        x.run(2000);
    }

    private static void rowPromise() {
        fresh(14, 1);
        due("no table", x.row(0), -1);
        x.begin(0, 10);
        x.run(2);
        due("row(0)", x.row(0), 0);
        due("row(2)", x.row(2), 2);
        due("row(3)", x.row(3), -1);
        due("row(-1)", x.row(-1), -1);
        gap();
        due("row(1)", x.row(1), 1);
        due("row(2) behind a gap", x.row(2), 3);
        due("row(3)", x.row(3), -1);
    }

    /** Rows 0, 1, 3 are left: the second SUBWORD makes rows 1 and 2 one. */
    private static void gap() {
        x.letters(3);
        sub("acbb");
        sub("abb");
        x.begin(0, 300);
        x.step();
    }

    private static void aboutPromise() {
        fresh(15, 1, "a^2");
        due("no table", x.about(0), -1);
        melted();
        int[] want = {2, 10, 8, 10, 2, 0, 1, 0, 10, 1};
        for (int k = 0; k < 10; k++) due("about(" + k + ")", x.about(k), want[k]);
        due("about(-1)", x.about(-1), -1);
        due("about(10)", x.about(10), -1);
        fresh(15, 1);
        x.begin(0, 4);
        x.run(2);
        int[] open = {3, 3, 0, 3, 2, 2, 0, 0, 3, 1};
        for (int k = 0; k < 10; k++) due("about(" + k + ")", x.about(k), open[k]);
        x.run(2000);
        int[] spent = {4, 4, 0, 4, 4, 2, 2, 1, 4, 2};
        x.pack();
        for (int k = 0; k < 10; k++) due("SPENT, about(" + k + ")", x.about(k), spent[k]);
    }

    private static void indexPromise() {
        fresh(16, 2, "a^2", "b^3", "(ab)^4");
        due("no table", x.index(), -1);
        x.begin(2, 300);
        due("not CLOSED", x.index(), -1);
        x.run(2000);
        due("of the trivial subgroup", x.index(), 24);
        sub("a");
        x.begin(2, 300);
        x.run(2000);
        due("of a's", x.index(), 12);
        x.begin(2, 5);
        x.run(2000);
        due("SPENT", x.index(), -1);
    }

    private static void renamePromise() {
        fresh(17, 2, "a^2", "b^3", "(ab)^2");
        refused("no table", x.rename(), 6);
        x.begin(0, 300);
        refused("not CLOSED", x.rename(), 6);
        x.letters(2);
        word("a^4");
        word("b^2");
        word("(ab)^2");
        sub("b a^2 b");
        x.begin(0, 300);
        x.run(2000);
        int done = x.about(9);
        int index = x.index();
        agreed("rename()", x.rename());
        due("DONE", x.about(9), done);
        due("next", x.about(8), index);
        int met = 1;
        for (int r = 0; r < index; r++) {
            for (int c = 0; c < 4; c++) {
                due("no new name is passed by", x.cell(r, c) <= met, true);
                if (x.cell(r, c) == met) met++;
                due("there and back", x.cell(x.cell(r, c), c ^ 1), r);
            }
        }
        due("all were met", met, index);
        melted();
        due("rename()", x.rename(), true);
        due("beyond", x.cell(2, 0), -1);
    }

    private static void packPromise() {
        fresh(18, 1);
        refused("no table", x.pack(), 5);
        gap();
        due("melted", x.cell(2, 0), -3);
        due("its cells stay", x.cell(1, 4) + 10 * x.cell(1, 2) + 100 * x.cell(3, 3), 131);
        agreed("pack()", x.pack(), 3);
        due("row(2)", x.row(2), 2);
        due("next", x.about(8), 3);
        due("PACKS", x.about(7), 1);
        due("beyond", x.cell(3, 0), -1);
        due("its cell", x.cell(2, 2), 0);
        due("the cell that led to it", x.cell(0, 3), 2);
        x.pack();
        due("PACKS", x.about(7), 2);
        fresh(18, 1);
        x.begin(0, 30);
        x.run(3);
        x.pack();
        due("DONE", x.about(9), 2);
        x.step();
        due("DONE goes on", x.about(9), 3);
    }

    private static void leadPromise() {
        fresh(19, 2);
        due("no table", x.lead(0), -1);
        x.begin(0, 300);
        due("THE WORD is empty", x.lead(0), 0);
        ask("a");
        due("empty cell", x.lead(0), -2);
        x.run(2);
        due("lead(0)", x.lead(0), x.cell(0, 0));
        ask("ab");
        due("lead(0)", x.lead(0), -2);
        ask("aA b");
        due("lead(0)", x.lead(0), x.cell(0, 2));
        due("lead(9)", x.lead(9), -1);
        due("lead(-1)", x.lead(-1), -1);
        melted();
        ask("a");
        due("melted", x.lead(2), -1);
        due("lead(1)", x.lead(1), 0);
    }

    private static void isPromise() {
        fresh(20, 2, "a^2", "b^3", "(ab)^2");
        due("no letters", x.is(), 1);
        ask("a^2");
        due("no table", x.is(), -2);
        x.begin(0, 300);
        due("open", x.is(), -2);
        x.run(2);
        due("leads back, not CLOSED", x.is(), 1);
        ask("bab^-1a");
        due("not CLOSED", x.is(), -2);
        x.run(2000);
        due("moves some row", x.is(), 0);
        ask("abab");
        due("moves none", x.is(), 1);
        sub("a");
        x.begin(0, 300);
        x.run(2000);
        due("CLOSED, with SUBWORDS", x.is(), -2);
        ask("a");
        due("moves some row, with SUBWORDS", x.is(), 0);
        x.begin(0, 300);
        x.step();
        due("leads back, with SUBWORDS", x.is(), -2);
    }

    private static void withinPromise() {
        fresh(21, 2, "a^2", "b^3", "(ab)^2");
        due("no table", x.within(), -1);
        sub("a");
        x.begin(0, 300);
        due("THE WORD is empty", x.within(), 1);
        ask("a");
        due("open", x.within(), -2);
        x.step();
        due("a", x.within(), 1);
        ask("b");
        due("b, open", x.within(), -2);
        x.run(2000);
        due("b", x.within(), 0);
        ask("b^-1ab^-1");
        due("of the subgroup", x.within(), 1);
    }

    private static void powerPromise() {
        fresh(22, 2, "a^2", "b^3", "(ab)^5");
        due("no table", x.power(), -1);
        x.begin(0, 300);
        due("not CLOSED", x.power(), -1);
        x.run(2000);
        due("THE WORD is empty", x.power(), 1);
        ask("ab");
        due("ab", x.power(), 5);
        ask("b");
        due("b", x.power(), 3);
        ask("abaB");
        due("[a,B]", x.power(), 5);
        fresh(22, 4, "a^2", "b^2", "c^2", "(ab)^2", "(bc)^3", "(ac)^7", "D abcac");
        sub("cabcacabcabcacbcacbacacbacacbac");
        sub("abcacabcabcabcbacacbacbacacba");
        sub("acabcacabcacbcacacbacacbaca");
        sub("cacabcacabcacbacacbacacbacb");
        sub("cabcabcacbacacbacacaca");
        x.begin(1, 300);
        x.run(2000);
        ask("d^3bd^7cDcd^2cd^4cd^3baDbDadcDcd^2aD");
        due("ten digits", x.power(), 2128840560);
        ask("badbd^3bd^3ad^6bcbdcdaDad^4");
        due("2235105600 is beyond", x.power(), 2147483647);
    }

    private static void sixth(int number) {
        fresh(number, 2, "a^2", "b^3", "(ab)^2");
        x.begin(0, 300);
        x.run(2000);
        x.rename();
    }

    private static void cyclesPromise() {
        fresh(23, 2, "a^2", "b^3", "(ab)^2");
        refused("no table", x.cycles(0, 1), 6);
        x.begin(0, 300);
        refused("not CLOSED", x.cycles(0, 1), 6);
        x.run(2000);
        agreed("a, of 2", x.cycles(0, 2), 3);
        agreed("b, of 3", x.cycles(1, 3), 2);
        agreed("a, of 1", x.cycles(0, 1), 0);
        agreed("of 0", x.cycles(0, 0), 0);
        agreed("below 0", x.cycles(0, -1), 0);
        agreed("of 2^31 - 1", x.cycles(0, 2147483647), 0);
        refused("no such letter", x.cycles(2, 1), 6);
        refused("no such letter", x.cycles(-1, 1), 6);
        sub("a");
        x.begin(0, 300);
        x.run(2000);
        due("a, of 1", x.cycles(0, 1), 1);
        due("a, of 2", x.cycles(0, 2), 1);
        due("b, of 3", x.cycles(1, 3), 1);
    }

    private static void leastPromise() {
        fresh(24, 2, "a^2", "b^3", "(ab)^2");
        x.tell(0, 0);
        refused("no table", x.least(0), 6);
        x.begin(0, 300);
        refused("not CLOSED", x.least(0), 6);
        spells("aa");
        sixth(24);
        String[] words = {"", "a", "b", "B", "ab", "aB"};
        for (int k = 0; k < 6; k++) {
            agreed("least(" + k + ")", x.least(k), words[k].length());
            spells(words[k]);
        }
        refused("no such row", x.least(6), 4);
        refused("no such row", x.least(-1), 4);
        spells("aB");
        melted();
        refused("melted", x.least(2), 4);
        fresh(24, 2, "[a,b]", "a^4", "b^4");
        x.begin(0, 300);
        x.run(2000);
        ask("a^2b^2");
        due("the least columns of many words", x.least(x.lead(0)), 4);
        spells("aabb");
        ask("a^-1b");
        due("least", x.least(x.lead(0)), 2);
        spells("Ab");
        fresh(24, 2, "a^2", "b^2");
        sub("a");
        sub("(ba)^9 b a B (AB)^9");
        x.begin(1, 300);
        x.run(2000);
        due("rows in a line", x.index(), 20);
        due("from its one end to the other", x.least(x.farthest()), 19);
        spells("ba".repeat(9) + "b");
    }

    private static void farthestPromise() {
        fresh(25, 1, "a^7");
        refused("no table", x.farthest(), 6);
        x.begin(0, 300);
        refused("not CLOSED", x.farthest(), 6);
        x.run(2000);
        x.rename();
        agreed("of two the least number", x.farthest(), 5);
        sixth(25);
        agreed("farthest()", x.farthest(), 4);
        sub("a");
        sub("b");
        x.begin(0, 300);
        x.run(2000);
        agreed("row 0 alone", x.farthest(), 0);
    }

    private static void tellPromise() {
        fresh(26, 5, "abcde", "E^2");
        sub("AbC");
        ask("dD e");
        agreed("a WORD", x.tell(0, 1), 2);
        spells("EE");
        agreed("a WORD", x.tell(0, 0), 5);
        spells("abcde");
        agreed("a SUBWORD", x.tell(1, 0), 3);
        spells("AbC");
        refused("none such", x.tell(0, 2), 4);
        refused("none such", x.tell(0, -1), 4);
        refused("none such", x.tell(1, 1), 4);
        refused("none such", x.tell(3, 0), 4);
        refused("none such", x.tell(-1, 0), 4);
        spells("AbC");
        agreed("THE WORD", x.tell(2, 77), 1);
        spells("e");
        ask("1");
        agreed("THE WORD", x.tell(2, -1), 0);
        spells("");
    }

    private static void outPromise() {
        fresh(27, 1, "aa");
        due("nothing told yet", throwsNone(0), true);
        x.tell(0, 0);
        due("out(1)", x.out(1), 'a');
        due("out(2)", throwsNone(2), true);
        due("out(-1)", throwsNone(-1), true);
        due("out(2^31 - 1)", throwsNone(2147483647), true);
        x.letters(1);
        due("OUT stays", x.out(0), 'a');
    }

    private static boolean throwsNone(int i) {
        try { x.out(i); } catch (NoSuchElementException e) { return true; }
        return false;
    }

    // ---- small subgroups

    private static void lowPromise() {
        fresh(28, 1);
        refused("low(0)", x.low(0), 1);
        refused("low(7)", x.low(7), 1);
        for (int n = 1; n <= 6; n++) agreed("one letter, low(" + n + ")", x.low(n), n);
        x.letters(2);
        int[] free = {1, 4, 11, 37};
        for (int n = 1; n <= 4; n++) agreed("two letters, low(" + n + ")", x.low(n), free[n - 1]);
        word("a^2");
        word("b^3");
        word("(ab)^2");
        x.begin(0, 10);
        int[] of = {1, 2, 3, 3, 3, 4};
        for (int n = 1; n <= 6; n++) agreed("of six, low(" + n + ")", x.low(n), of[n - 1]);
        due("the table stays", x.about(0), 1);
        sub("a");
        due("SUBWORDS are of no matter", x.low(6), 4);
    }

    private static void lowlyPromise() {
        fresh(29, 1);
        due("ahead of any", x.lowly(0), -1);
        x.low(7);
        due("a refused one is none", x.lowly(0), -1);
        x.low(1);
        due("TRIES", x.lowly(0), 1);
        x.low(2);
        due("TRIES", x.lowly(0), 3);
        due("not ENDED", x.lowly(1), 0);
        due("lowly(2)", x.lowly(2), -1);
        due("lowly(-1)", x.lowly(-1), -1);
        x.low(0);
        due("the latest that was not refused", x.lowly(0), 3);
        x.letters(5);
        x.low(6);
        due("TRIES", x.lowly(0), 3000);
        due("ENDED", x.lowly(1), 1);
    }

    private static void smallPromise() {
        fresh(30, 2, "a^2", "b^3", "(ab)^2");
        due("ahead of any", x.small(0, 0, 0), -1);
        x.low(6);
        int[][] third = {{0, 0, 1, 2}, {2, 2, 2, 0}, {1, 1, 0, 1}};
        int[][] second = {{1, 1, 0, 0}, {0, 0, 1, 1}};
        for (int k = 0; k < 12; k++) due("the second", x.small(1, k / 4, k % 4), third[k / 4][k % 4]);
        for (int k = 0; k < 8; k++) due("the third", x.small(2, k / 4, k % 4), second[k / 4][k % 4]);
        due("no such row", x.small(2, 2, 0), -1);
        due("no such column", x.small(2, 0, 4), -1);
        due("no such one", x.small(4, 0, 0), -1);
        due("below 0", x.small(-1, 0, 0), -1);
        due("below 0", x.small(0, -1, 0), -1);
        due("below 0", x.small(0, 0, -1), -1);
        x.letters(5);
        due("they stay", x.small(2, 0, 0), 1);
        due("with their columns", x.small(2, 0, 5), -1);
        due("more than 40", x.low(5) > 40, true);
        due("the 40 first are kept", x.small(39, 0, 0) >= 0, true);
        due("no more", x.small(40, 0, 0), -1);
        for (int i = 1; i < 40; i++) due("the less first, " + i, before(i - 1, i), true);
    }

    private static boolean before(int i, int k) {
        for (int r = 0; r < 5; r++)
            for (int c = 0; c < 10; c++)
                if (x.small(i, r, c) != x.small(k, r, c)) return x.small(i, r, c) < x.small(k, r, c);
        return false;
    }

    private static void sizePromise() {
        fresh(31, 2, "a^2", "b^3", "(ab)^2");
        due("ahead of any", x.size(0), -1);
        x.low(6);
        int[] want = {1, 3, 2, 6, -1};
        for (int i = 0; i < 5; i++) due("size(" + i + ")", x.size(i), want[i]);
        due("size(-1)", x.size(-1), -1);
    }

    private static void normalPromise() {
        fresh(32, 2, "a^2", "b^3", "(ab)^2");
        due("ahead of any", x.normal(0), -1);
        x.low(6);
        int[] want = {1, 0, 1, 1, -1};
        for (int i = 0; i < 5; i++) due("normal(" + i + ")", x.normal(i), want[i]);
        due("normal(-1)", x.normal(-1), -1);
    }

    // ---- kept and told tables

    private static void keepPromise() {
        fresh(33, 2);
        refused("no table", x.keep(), 5);
        x.begin(1, 10);
        x.run(3);
        agreed("keep()", x.keep());
        x.run(3);
        agreed("in place of another one", x.keep());
        x.run(2000);
        x.back();
        due("rows", x.about(0), 6);
        due("steps", x.about(4), 6);
        due("by its strategy", x.step(), 0);
        due("rows", x.about(0), 7);
    }

    private static void backPromise() {
        fresh(34, 2, "a^2", "b^3", "(ab)^2");
        x.begin(0, 300);
        refused("none is KEPT", x.back(), 7);
        x.run(3);
        x.keep();
        int[] abouts = new int[10];
        for (int k = 0; k < 10; k++) abouts[k] = x.about(k);
        int[] cells = new int[24];
        for (int k = 0; k < 24; k++) cells[k] = x.cell(k / 4, k % 4);
        x.run(2000);
        x.rename();
        x.begin(1, 5);
        for (int n = 0; n < 2; n++) {
            agreed("back()", x.back());
            for (int k = 0; k < 10; k++) due("about(" + k + ")", x.about(k), abouts[k]);
            for (int k = 0; k < 24; k++) due("cell", x.cell(k / 4, k % 4), cells[k]);
            due("goes on", x.run(2000), 1);
            due("index", x.index(), 6);
        }
        ask("ab");
        word("1");
        word("?");
        x.low(2);
        x.letters(9);
        x.drop(true);
        agreed("nothing changed what is told", x.back());
        word("ab");
        refused("word()", x.back(), 7);
        x.drop(false);
        refused("drop()", x.back(), 7);
        x.begin(0, 300);
        x.keep();
        x.drop(false);
        refused("drop()", x.back(), 7);
        x.begin(0, 300);
        x.keep();
        sub("a");
        refused("sub()", x.back(), 7);
        x.begin(0, 300);
        x.keep();
        x.letters(2);
        refused("letters()", x.back(), 7);
        gap();
        x.keep();
        x.begin(0, 300);
        x.run(3);
        x.back();
        due("numbers with a gap", x.row(2), 3);
        due("cells", x.cell(0, 3), 3);
        due("made", x.about(1), 4);
        x.begin(4, 4);
        x.step();
        x.keep();
        x.pack();
        x.begin(0, 300);
        x.back();
        due("SMALL", x.run(2000), 2);
        due("in four rows", x.about(0), 4);
        due("what melted ahead of keep() makes it PACK", x.about(7), 1);
        x.letters(1);
        word("a^7");
        x.begin(0, 300);
        x.run(2000);
        x.pack();
        x.keep();
        x.rename();
        due("renamed", x.cell(0, 1), 2);
        x.pack();
        x.back();
        due("as it was", x.cell(0, 1), 6);
        due("PACKS as they were", x.about(7), 1);
        for (int k = 0; k < 7; k++) due("row(" + k + ")", x.row(k), k);
    }

    private static void sheetPromise() {
        fresh(35, 1);
        refused("sheet(-1)", x.sheet(-1), 1);
        refused("sheet(41)", x.sheet(41), 1);
        agreed("sheet(40)", x.sheet(40));
        due("row 39", x.put(39, 0, 0), true);
        agreed("sheet(1)", x.sheet(1));
        x.put(0, 0, 0);
        x.put(0, 1, 0);
        due("right", x.check(), -2);
        refused("sheet(50)", x.sheet(50), 1);
        due("it stays", x.check(), -2);
        x.sheet(1);
        due("empty anew", x.check(), 1);
        agreed("sheet(0)", x.sheet(0));
        due("no rows", x.check(), -1);
    }

    private static void putPromise() {
        fresh(36, 1);
        refused("no rows", x.put(0, 0, 0), 1);
        x.sheet(2);
        agreed("put", x.put(1, 9, 2147483647));
        refused("row 2", x.put(2, 0, 0), 1);
        refused("row -1", x.put(-1, 0, 0), 1);
        refused("column 10", x.put(0, 10, 0), 1);
        refused("column -1", x.put(0, -1, 0), 1);
        x.put(0, 0, 1);
        x.put(0, 1, 1);
        x.put(1, 0, 0);
        x.put(1, 1, 0);
        due("right", x.check(), -2);
    }

    private static void told(int[][] rows) {
        x.sheet(rows.length);
        for (int r = 0; r < rows.length; r++)
            for (int c = 0; c < rows[r].length; c++) x.put(r, c, rows[r][c]);
    }

    private static void checkPromise() {
        fresh(37, 2, "a^2", "b^3", "(ab)^2");
        due("without rows", x.check(), -1);
        told(new int[][] {{0, 0, 1, 2}, {2, 2, 2, 0}, {1, 1, 0, 1}});
        due("right", x.check(), -2);
        sub("a");
        due("right with a", x.check(), -2);
        sub("b");
        due("not with b", x.check(), 4);
        x.drop(true);
        x.put(2, 3, 3);
        due("none of its rows", x.check(), 2031);
        x.put(1, 2, -2147483648);
        due("the first by rows", x.check(), 1021);
        x.put(1, 3, -1);
        due("the first by columns", x.check(), 1021);
        told(new int[][] {{0, 0, 1, 2}, {2, 2, 2, 0}, {1, 1, 0, 0}});
        due("doesn't lead back", x.check(), 1022);
        told(new int[][] {{0, 0, 2, 2}, {2, 2, 2, 0}, {1, 1, 0, 9}});
        due("cells that hold no rows come first", x.check(), 2031);
        told(new int[][] {{1, 1, 2, 2}, {0, 0, 1, 1}, {2, 2, 0, 0}});
        due("a WORD doesn't come round", x.check(), 3);
        told(new int[][] {{0, 0, 0, 0}, {2, 2, 1, 1}, {1, 1, 2, 2}});
        due("not reached", x.check(), 1005);
        told(new int[][] {{0, 0, 0, 0}, {1, 1, 2, 2}, {2, 2, 1, 1}});
        due("a WORD ahead of it, from row 1", x.check(), 1003);
        told(new int[][] {{1, 1, 0, 0}, {0, 0, 1, 1}, {2, 2, 2, 2}});
        due("a SUBWORD ahead of it", x.check(), 4);
        x.letters(1);
        due("columns there are", x.check(), 2005);
    }

    private static void troublePromise() {
        promise = 38;
        x = new CosetHouse();
        due("at first", x.trouble(), 0);
        x.letters(0);
        due("1", x.trouble(), 1);
        x.fault();
        x.cell(0, 0);
        x.row(0);
        x.about(0);
        x.index();
        x.lead(0);
        x.is();
        x.within();
        x.power();
        x.letter(0, 0, true);
        x.lowly(0);
        x.small(0, 0, 0);
        x.size(0);
        x.normal(0);
        x.check();
        x.where();
        throwsNone(0);
        due("calls without a reason leave it", x.trouble(), 1);
        x.letters(2);
        due("it wasn't", x.trouble(), 0);
        word("?");
        due("2", x.trouble(), 2);
        for (int k = 0; k < 7; k++) sub("a");
        due("3", x.trouble(), 3);
        x.tell(0, 0);
        due("4", x.trouble(), 4);
        x.pack();
        due("5", x.trouble(), 5);
        x.farthest();
        due("6", x.trouble(), 6);
        x.back();
        due("7", x.trouble(), 7);
        x.low(1);
        due("0", x.trouble(), 0);
    }

    private static void wherePromise() {
        fresh(39, 1);
        due("ahead of any", x.where(), -1);
        word("  a  ?");
        due("where()", x.where(), 5);
        due("where() again", x.where(), 5);
        x.cell(0, 0);
        due("cell() is never refused so", x.where(), 5);
        x.letters(0);
        due("another reason", x.where(), -1);
        ask("a^100");
        due("ask()", x.where(), 2);
        ask("a");
        due("not refused", x.where(), -1);
    }

    public static void main(String[] args) {
        newObject();
        feedPromise();
        lettersPromise();
        wordPromise();
        texts();
        subPromise();
        dropPromise();
        letterPromise();
        askPromise();
        faultPromise();
        beginPromise();
        stepPromise();
        lookWithoutEmptyCell();
        strategies();
        stepsOfStrategies();
        smallStrategy();
        madeInAll();
        runPromise();
        cellPromise();
        rowPromise();
        aboutPromise();
        indexPromise();
        renamePromise();
        packPromise();
        leadPromise();
        isPromise();
        withinPromise();
        powerPromise();
        cyclesPromise();
        leastPromise();
        farthestPromise();
        tellPromise();
        outPromise();
        lowPromise();
        lowlyPromise();
        smallPromise();
        sizePromise();
        normalPromise();
        keepPromise();
        backPromise();
        sheetPromise();
        putPromise();
        checkPromise();
        troublePromise();
        wherePromise();
        System.out.println(wrong == 0 ? "all answers are as due" : wrong + " answers are not as due");
        if (wrong != 0) System.exit(1);
    }
}
