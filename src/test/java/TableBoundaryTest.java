import java.lang.reflect.Field;
import java.math.BigInteger;
import java.util.function.Consumer;

/** Each boundary case that promises 10 to 27 name, by the promise. */
public final class TableBoundaryTest {
    private static final int E = Trial.EMPTY;
    private static final int[] FAR = {-1, Trial.LEAST_INT, Trial.MOST_INT};

    private static final Consumer<Trial> OPEN = x -> { x.open(); x.tape("ab"); };
    private static final Consumer<Trial> CLOSED = x -> { x.closed(); x.tape("ab"); };
    private static final Consumer<Trial> SPENT = x -> { x.spent(); x.tape("ab"); };
    private static final Consumer<Trial> BARE = x -> { x.bare(); x.tape("ab"); };

    /** The group of six in a CLOSED table, as FILL makes it. */
    private static void sixClosed(Trial t) {
        t.six();
        t.begin(0, 300);
        t.run(2000);
    }

    // ---- 10: begin

    static void promise10_strategies0To4(Trial t) {
        for (int s = 0; s <= 4; s++) t.agreed("begin(" + s + ", 10)", t.begin(s, 10));
        for (int s : new int[] {-1, 5, Trial.LEAST_INT, Trial.MOST_INT}) t.refused("begin(" + s + ", 10)", t.begin(s, 10), 1);
    }

    static void promise10_rows1To300(Trial t) {
        for (int n : new int[] {1, 2, 299, 300}) t.agreed("begin(0, " + n + ")", t.begin(0, n));
        for (int n : new int[] {0, 301, -1, Trial.LEAST_INT, Trial.MOST_INT}) t.refused("begin(0, " + n + ")", t.begin(0, n), 1);
    }

    static void promise10_refusedWhatWasStays(Trial t) {
        int[][] wrong = {{-1, 10}, {5, 10}, {0, 0}, {0, 301}, {-1, 0}};
        for (int[] w : wrong) {
            Consumer<Trial> call = x -> x.refused("begin(" + w[0] + ", " + w[1] + ")", x.begin(w[0], w[1]), 1);
            t.leavesAll("open", OPEN, call);
            t.leavesAll("CLOSED", CLOSED, call);
            t.leavesAll("SPENT", SPENT, call);
            t.leavesAll("no table", BARE, call);
        }
    }

    static void promise10_row0Alone(Trial t) {
        t.letters(5);
        for (int s = 0; s <= 4; s++) {
            t.begin(s, 3);
            t.abouts("begun", 1, 1, 0, 1, 0, 10, 0, 0, 1, 0);
            for (int c = 0; c < 10; c++) t.due("cell(0, " + c + ")", t.cell(0, c), E);
            t.due("row(0)", t.row(0), 0);
            t.due("no other row", t.row(1), Trial.NONE);
            t.run(2000);
            t.pack();
        }
    }

    // ---- 11: step

    static void promise11_withoutATable(Trial t) {
        t.refused("of a new object", t.step(), 5);
        t.begin(0, 1);
        t.letters(1);
        t.refused("behind letters()", t.step(), 5);
        t.leavesAll("step()", BARE, x -> x.refused("step()", x.step(), 5));
    }

    static void promise11_goesOnClosedSpent(Trial t) {
        t.word("a^2");
        t.begin(0, 2);
        t.agreed("goes on", t.step(), 0);
        t.agreed("CLOSED", t.step(), 1);
        t.begin(0, 1);
        t.agreed("goes on", t.step(), 0);
        t.agreed("SPENT", t.step(), 2);
    }

    static void promise11_closedNothingIsDone(Trial t) {
        t.leavesAll("CLOSED", CLOSED, x -> {
            x.agreed("the same is told", x.step(), 1);
            x.agreed("and again", x.step(), 1);
        });
    }

    static void promise11_spentNothingIsDone(Trial t) {
        t.leavesAll("SPENT", SPENT, x -> {
            x.agreed("the same is told", x.step(), 2);
            x.agreed("and again", x.step(), 2);
        });
    }

    /** PACK makes no place for what was SPENT. */
    static void promise11_spentIsForGood(Trial t) {
        t.gap(0, 4);
        t.agreed("SPENT", t.step(), 2);
        t.pack();
        t.agreed("the same is told", t.step(), 2);
        t.abouts("nothing is done", 4, 5, 1, 4, 2);
    }

    // ---- 12: run

    static void promise12_steps1To2000(Trial t) {
        t.begin(1, 300);
        t.agreed("run(1)", t.run(1), 0);
        t.due("STEPS", t.about(4), 1);
        t.agreed("run(3)", t.run(3), 0);
        t.due("STEPS", t.about(4), 4);
        t.agreed("run(2000)", t.run(2000), 2);
        for (int n : new int[] {0, 2001, -1, Trial.LEAST_INT, Trial.MOST_INT}) t.refused("run(" + n + ")", t.run(n), 1);
    }

    static void promise12_refusedNothingIsDone(Trial t) {
        for (int n : new int[] {0, 2001, -1}) t.leavesAll("run(" + n + ")", OPEN, x -> x.refused("run(" + n + ")", x.run(n), 1));
    }

    static void promise12_all2000Steps(Trial t) {
        t.letters(2);
        t.words("ABBAbba");
        t.begin(1, 300);
        t.agreed("run(1999)", t.run(1999), 0);
        t.due("STEPS", t.about(4), 1999);
        t.begin(1, 300);
        t.agreed("run(2000)", t.run(2000), 0);
        t.due("STEPS", t.about(4), 2000);
    }

    static void promise12_withoutATableAheadOfTheNumber(Trial t) {
        for (int n : new int[] {1, 2000, 0, 2001, -1}) t.refused("run(" + n + ")", t.run(n), 5);
    }

    static void promise12_asLongAsItGoesOn(Trial t) {
        t.six();
        t.begin(0, 300);
        t.agreed("up to CLOSED", t.run(2000), 1);
        t.due("STEPS", t.about(4), 5);
        t.agreed("nothing is done", t.run(1), 1);
        t.refused("a number, though it is CLOSED", t.run(0), 1);
        t.due("STEPS", t.about(4), 5);
        t.begin(0, 2);
        t.agreed("up to SPENT", t.run(2000), 2);
        int steps = t.about(4);
        t.agreed("nothing is done", t.run(2000), 2);
        t.due("STEPS", t.about(4), steps);
    }

    static void promise12_asManyStepsOneByOne(Trial t) {
        for (int s = 0; s < 5; s++) {
            int strategy = s;
            Consumer<Trial> story = x -> { x.six(); x.begin(strategy, 8); };
            t.leavesAll("strategy " + s, x -> { story.accept(x); for (int k = 0; k < 4; k++) x.step(); x.begin(strategy, 8); x.run(4); },
                x -> { x.begin(strategy, 8); for (int k = 0; k < 4; k++) x.step(); });
        }
    }

    // ---- 13: cell

    static void promise13_rowsThereAre(Trial t) {
        t.begin(1, 3);
        t.run(3);
        t.cells("rows 0 to 2", new int[] {1, 2}, new int[] {E, 0}, new int[] {0, E});
        t.due("the next number", t.cell(3, 0), Trial.NONE);
        for (int far : FAR) t.due("row " + far, t.cell(far, 0), Trial.NONE);
    }

    static void promise13_columnsThereAre(Trial t) {
        for (int n = 1; n <= 5; n++) {
            t.letters(n);
            t.begin(0, 3);
            t.due("the last column", t.cell(0, 2 * n - 1), E);
            t.due("one beyond", t.cell(0, 2 * n), Trial.NONE);
            t.due("column 10", t.cell(0, 10), Trial.NONE);
            for (int far : FAR) t.due("column " + far, t.cell(0, far), Trial.NONE);
        }
    }

    static void promise13_emptyMeltedOrNoSuchRow(Trial t) {
        t.gap(0, 300);
        t.due("empty", t.cell(0, 1), E);
        t.due("melted, first column", t.cell(2, 0), Trial.MELTED);
        t.due("melted, last column", t.cell(2, 5), Trial.MELTED);
        t.due("melted, no such column", t.cell(2, 6), Trial.NONE);
        t.due("left", t.cell(3, 2), 0);
        t.due("not made yet", t.cell(4, 0), Trial.NONE);
        t.pack();
        t.due("left", t.cell(2, 2), 0);
        t.due("behind PACK there is no such row", t.cell(3, 2), Trial.NONE);
    }

    static void promise13_noTable(Trial t) {
        t.due("of a new object", t.cell(0, 0), Trial.NONE);
        t.begin(0, 3);
        t.due("begun", t.cell(0, 0), E);
        t.word("a");
        t.due("behind word()", t.cell(0, 0), Trial.NONE);
    }

    static void promise13_leavesTheReason(Trial t) {
        t.mark();
        t.cell(0, 0);
        t.begin(0, 3);
        t.mark();
        t.cell(0, 0);
        t.cell(1, 0);
        t.cell(0, 2);
        t.marked("cell");
    }

    // ---- 14: row

    static void promise14_firstLastAndBeyond(Trial t) {
        t.gap(0, 300);
        t.due("row(0)", t.row(0), 0);
        t.due("row(1)", t.row(1), 1);
        t.due("row(2), behind what melted", t.row(2), 3);
        t.due("row(3)", t.row(3), Trial.NONE);
        for (int far : FAR) t.due("row(" + far + ")", t.row(far), Trial.NONE);
        t.begin(0, 300);
        t.due("of one row", t.row(0), 0);
        t.due("of one row", t.row(1), Trial.NONE);
    }

    static void promise14_noTable(Trial t) {
        t.due("of a new object", t.row(0), Trial.NONE);
        t.mark();
        t.row(0);
        t.marked("row");
    }

    // ---- 15: about

    static void promise15_whatThereIs(Trial t) {
        t.begin(0, 3);
        t.due("about(-1)", t.about(-1), Trial.NONE);
        t.due("about(9)", t.about(9), 0);
        t.due("about(10)", t.about(10), Trial.NONE);
        for (int far : FAR) t.due("about(" + far + ")", t.about(far), Trial.NONE);
    }

    static void promise15_noTable(Trial t) {
        for (int k = -1; k <= 10; k++) t.due("about(" + k + ")", t.about(k), Trial.NONE);
        t.begin(0, 3);
        t.sub("a");
        for (int k = 0; k <= 9; k++) t.due("behind sub(), about(" + k + ")", t.about(k), Trial.NONE);
    }

    static void promise15_ofATableThatIsClosed(Trial t) {
        t.melted();
        t.abouts("CLOSED", 2, 10, 8, 10, 2, 0, 1, 0, 10, 1);
        t.pack();
        t.abouts("PACKED: made, melted and the most stay", 2, 10, 8, 10, 2, 0, 1, 1, 2, 1);
    }

    static void promise15_ofATableThatIsSpent(Trial t) {
        t.begin(0, 4);
        t.run(2000);
        t.abouts("SPENT", 4, 4, 0, 4, 4, 2, 2, 0, 4, 2);
    }

    static void promise15_theMostAtOnce(Trial t) {
        t.gap(0, 300);
        t.abouts("four were left at once", 3, 4, 1, 4);
        t.step();
        t.abouts("then seven", 7, 8, 1, 7);
    }

    /** Rows 2 and 3 are DONE, and melt with row 0 while row 4 is filled. */
    static void promise15_doneRowsThatAreLeft(Trial t) {
        t.letters(2);
        t.words("bAB");
        t.begin(0, 300);
        t.run(5);
        t.due("rows 0 to 3", t.about(9), 4);
        t.step();
        t.due("row 2 melted", t.cell(2, 0), Trial.MELTED);
        t.due("row 3 melted", t.cell(3, 0), Trial.MELTED);
        t.due("rows 0, 1 and 4", t.about(9), 3);
    }

    static void promise15_leavesTheReason(Trial t) {
        t.begin(0, 3);
        t.mark();
        t.about(0);
        t.about(10);
        t.marked("about");
    }

    // ---- 16: index

    static void promise16_notClosed(Trial t) {
        t.due("no table", t.index(), Trial.NONE);
        t.six();
        t.begin(0, 300);
        t.due("just begun", t.index(), Trial.NONE);
        t.run(4);
        t.due("goes on", t.index(), Trial.NONE);
        t.step();
        t.due("CLOSED", t.index(), 6);
        t.begin(0, 5);
        t.run(2000);
        t.due("SPENT", t.index(), Trial.NONE);
        t.mark();
        t.index();
        t.marked("index");
    }

    static void promise16_rowsThatAreLeft(Trial t) {
        t.melted();
        t.due("of ten made", t.index(), 2);
        t.letters(5);
        t.subs("a", "b", "c", "d", "e");
        t.begin(0, 1);
        t.run(1);
        t.due("all", t.index(), 1);
    }

    static void promise16_threeHundred(Trial t) {
        t.letters(2);
        t.words("[a,b]", "a^20", "b^15");
        t.begin(1, 300);
        t.run(2000);
        t.due("as many as can be", t.index(), 300);
        t.agreed("the farthest one", t.farthest() >= 0);
        t.agreed("its word", t.least(t.farthest()), 17);
        t.spells("its word", "a".repeat(10) + "b".repeat(7));
        t.begin(1, 299);
        t.agreed("one fewer", t.run(2000), 2);
        t.due("one fewer", t.index(), Trial.NONE);
    }

    // ---- 17: rename

    static void promise17_refusedIfNotClosed(Trial t) {
        t.refused("of a new object", t.rename(), 6);
        Consumer<Trial> call = x -> x.refused("rename()", x.rename(), 6);
        t.leavesAll("no table", BARE, call);
        t.leavesAll("open", OPEN, call);
        t.leavesAll("SPENT", SPENT, call);
        t.leavesAll("numbers with a gap", x -> x.gap(0, 5), call);
    }

    static void promise17_doneGoesWithItsRow(Trial t) {
        t.melted();
        t.agreed("rename()", t.rename());
        t.abouts("two rows, one is DONE", 2, 10, 8, 10, 2, 0, 1, 0, 2, 1);
        t.cells("rows 0 and 1", new int[] {1, 1}, new int[] {0, 0}, new int[] {Trial.NONE, Trial.NONE});
        t.agreed("once more", t.rename());
        t.abouts("the same", 2, 10, 8, 10, 2, 0, 1, 0, 2, 1);
    }

    static void promise17_row0StaysRow0(Trial t) {
        t.letters(2);
        t.words("a^3", "b^2", "(ab)^2");
        t.subs("b");
        t.begin(0, 300);
        t.run(2000);
        t.due("index", t.index(), 3);
        t.agreed("rename()", t.rename());
        t.cells("the subgroup is row 0", new int[] {1, 2, 0, 0}, new int[] {2, 0, 2, 2}, new int[] {0, 1, 1, 1});
    }

    static void promise17_oneRow(Trial t) {
        t.sub("a");
        t.begin(0, 1);
        t.step();
        t.agreed("rename()", t.rename());
        t.cells("row 0", new int[] {0, 0});
    }

    /** Where nothing melts, LOOK makes rows in the order in which RENAMED meets them. */
    static void promise17_threeHundredRows(Trial t) {
        Trial look = new Trial();
        for (Trial x : new Trial[] {t, look}) {
            x.letters(2);
            x.words("[a,b]", "a^20", "b^15");
            x.begin(x == look ? 1 : 2, 300);
            x.agreed("CLOSED", x.run(2000), 1);
        }
        t.agreed("rename()", t.rename());
        for (int r = 0; r < 300; r += 3)
            for (int c = 0; c < 4; c++) t.due("cell(" + r + ", " + c + ")", t.cell(r, c), look.cell(r, c));
        t.due("the last row", t.row(299), 299);
    }

    // ---- 18: pack

    static void promise18_withoutATable(Trial t) {
        t.refused("of a new object", t.pack(), 5);
        t.leavesAll("pack()", BARE, x -> x.refused("pack()", x.pack(), 5));
    }

    static void promise18_howManyAreLeft(Trial t) {
        t.gap(0, 300);
        t.agreed("pack()", t.pack(), 3);
        t.abouts("PACKED", 3, 4, 1, 4, 1, 10, 0, 1, 3, 0);
        t.agreed("with no gap, too", t.pack(), 3);
        t.abouts("PACKED again", 3, 4, 1, 4, 1, 10, 0, 2, 3, 0);
        t.begin(0, 300);
        t.agreed("of row 0 alone", t.pack(), 1);
        t.abouts("PACKED", 1, 1, 0, 1, 0, 6, 0, 1, 1, 0);
    }

    static void promise18_closedAndSpentStay(Trial t) {
        t.melted();
        t.agreed("pack()", t.pack(), 2);
        t.agreed("CLOSED", t.step(), 1);
        t.due("index()", t.index(), 2);
        t.begin(2, 3);
        t.run(2000);
        t.agreed("pack()", t.pack(), 3);
        t.agreed("SPENT", t.step(), 2);
    }

    // ---- 19: lead

    static void promise19_rowsThatAreLeft(Trial t) {
        t.due("no table", t.lead(0), Trial.NONE);
        t.melted();
        t.ask("a");
        t.due("lead(0)", t.lead(0), 1);
        t.due("lead(1)", t.lead(1), 0);
        t.due("melted", t.lead(2), Trial.NONE);
        t.due("melted", t.lead(9), Trial.NONE);
        t.due("no such row", t.lead(10), Trial.NONE);
        for (int far : FAR) t.due("row " + far, t.lead(far), Trial.NONE);
        t.ask("1");
        t.due("the empty one leads nowhere else", t.lead(1), 1);
        t.due("melted, of the empty one", t.lead(2), Trial.NONE);
    }

    static void promise19_anEmptyCell(Trial t) {
        t.letters(2);
        t.begin(1, 300);
        t.ask("ab");
        t.due("the first letter", t.lead(0), E);
        t.run(2);
        t.due("the last letter", t.lead(0), E);
        t.ask("bA");
        t.due("the first letter, though the last one could be gone", t.lead(0), E);
        t.ask("a");
        t.due("none", t.lead(0), 1);
        t.ask("1");
        t.due("no letter", t.lead(0), 0);
    }

    static void promise19_leavesTheReason(Trial t) {
        t.begin(0, 3);
        t.mark();
        t.lead(0);
        t.lead(1);
        t.marked("lead");
    }

    // ---- 20: is

    static void promise20_noLetters(Trial t) {
        t.due("no table", t.is(), 1);
        t.sub("a");
        t.begin(0, 3);
        t.due("with SUBWORDS", t.is(), 1);
        t.ask("aA");
        t.due("brought to none", t.is(), 1);
    }

    static void promise20_movesSomeRowOfAClosedOne(Trial t) {
        sixClosed(t);
        t.ask("a");
        t.due("moves all", t.is(), 0);
        t.sub("a");
        t.begin(0, 300);
        t.run(2000);
        t.due("moves some, but not row 0", t.is(), 0);
        t.due("it leads back", t.lead(0), 0);
    }

    static void promise20_movesNoRowOfAClosedOne(Trial t) {
        sixClosed(t);
        t.ask("(ab)^2");
        t.due("no SUBWORDS", t.is(), 1);
        t.sub("a");
        t.begin(0, 300);
        t.run(2000);
        t.due("with SUBWORDS", t.is(), Trial.OPEN);
    }

    static void promise20_notClosed(Trial t) {
        t.six();
        t.ask("a^2");
        t.due("no table", t.is(), Trial.OPEN);
        t.begin(0, 300);
        t.due("it comes to an empty cell", t.is(), Trial.OPEN);
        t.run(2);
        t.due("it leads from row 0 back", t.is(), 1);
        t.ask("a");
        t.due("it leads from row 0 elsewhere", t.is(), Trial.OPEN);
        t.sub("a");
        t.begin(0, 300);
        t.step();
        t.due("it leads back, with SUBWORDS", t.is(), Trial.OPEN);
        t.due("it leads back", t.lead(0), 0);
    }

    static void promise20_spent(Trial t) {
        t.six();
        t.begin(0, 3);
        t.run(2000);
        t.ask("a^2");
        t.due("it leads from row 0 back in a SPENT one", t.is(), 1);
        t.ask("a");
        t.due("it does not", t.is(), Trial.OPEN);
        t.mark();
        t.is();
        t.marked("is");
    }

    // ---- 21: within

    static void promise21_noTable(Trial t) {
        t.due("of a new object", t.within(), Trial.NONE);
        t.begin(0, 3);
        t.due("begun, the empty word", t.within(), 1);
        t.letters(1);
        t.due("behind letters()", t.within(), Trial.NONE);
        t.mark();
        t.within();
        t.marked("within");
    }

    static void promise21_closedOrNot(Trial t) {
        t.six();
        t.subs("a");
        t.ask("a");
        t.begin(0, 300);
        t.due("an empty cell", t.within(), Trial.OPEN);
        t.step();
        t.due("it leads to row 0", t.within(), 1);
        t.ask("b");
        t.run(1);
        t.due("it leads to another row, not CLOSED", t.within(), Trial.OPEN);
        t.run(2000);
        t.due("it leads to another row, CLOSED", t.within(), 0);
        t.ask("BaB");
        t.due("it leads to row 0, CLOSED", t.within(), 1);
        t.begin(0, 2);
        t.run(2000);
        t.due("SPENT", t.within(), Trial.OPEN);
        t.ask("a");
        t.due("it leads to row 0, SPENT", t.within(), 1);
    }

    // ---- 22: power

    static void promise22_notClosed(Trial t) {
        t.due("no table", t.power(), Trial.NONE);
        t.six();
        t.ask("a");
        t.begin(0, 300);
        t.due("open", t.power(), Trial.NONE);
        t.begin(0, 3);
        t.run(2000);
        t.due("SPENT", t.power(), Trial.NONE);
        t.mark();
        t.power();
        t.marked("power");
    }

    static void promise22_above0(Trial t) {
        sixClosed(t);
        t.due("of the empty word", t.power(), 1);
        t.ask("a^2");
        t.due("of one that moves no row", t.power(), 1);
        t.ask("a");
        t.due("of a", t.power(), 2);
        t.ask("b");
        t.due("of b", t.power(), 3);
        t.ask("B");
        t.due("of B", t.power(), 3);
    }

    /** Five rows: a turns rows of three and of two about, b one of these with one of those. */
    static void promise22_cyclesOfTwoLengths(Trial t) {
        t.letters(2);
        t.subs("a^3", "b^2", "ba^2B", "abA", "Aba", "babAB");
        t.begin(0, 5);
        t.agreed("SUBWORDS alone", t.step(), 1);
        t.due("index", t.index(), 5);
        t.agreed("of three", t.cycles(0, 3), 1);
        t.agreed("of two", t.cycles(0, 2), 1);
        t.ask("a");
        t.due("three and two", t.power(), 6);
        t.ask("b");
        t.due("two and one, one, one", t.power(), 2);
        t.ask("ab");
        t.due("all five", t.power(), 5);
    }

    private static final String UNDER = "d^3bd^7cDcd^2cd^4cd^3baDbDadcDcd^2aD";
    private static final String OVER = "badbd^3bd^3ad^6bcbdcdaDad^4";
    private static final String OVER_TWICE = "bdadbacd^7bcdcbcdad^2";

    static void promise22_underTheBound(Trial t) {
        t.surface(1);
        t.due("index", t.index(), 252);
        t.ask(UNDER);
        t.due("power", t.power(), 2128840560);
        t.due("power by going round", powerByLeads(t), "2128840560");
    }

    static void promise22_beyond(Trial t) {
        t.surface(1);
        t.ask(OVER);
        t.due("power", t.power(), Trial.MOST_INT);
        t.due("power by going round", powerByLeads(t), "2235105600");
    }

    static void promise22_beyondTwice(Trial t) {
        t.surface(1);
        t.ask(OVER_TWICE);
        t.due("power", t.power(), Trial.MOST_INT);
        t.due("power by going round", powerByLeads(t), "4791568320");
    }

    static void promise22_beyondByOtherStrategies(Trial t) {
        for (int strategy = 2; strategy < 5; strategy++) {
            Trial x = new Trial();
            x.surface(strategy);
            x.due("strategy " + strategy + ": index", x.index(), 252);
            x.ask(OVER);
            x.due("strategy " + strategy + ": beyond", x.power(), Trial.MOST_INT);
            x.ask(UNDER);
            x.due("strategy " + strategy + ": not beyond", x.power(), 2128840560);
        }
    }

    /** The least number that all cycles of THE WORD divide, whatever its size. */
    private static String powerByLeads(Trial t) {
        t.pack();
        int rows = t.index();
        int[] lead = new int[rows];
        for (int r = 0; r < rows; r++) lead[r] = t.lead(r);
        BigInteger all = BigInteger.ONE;
        boolean[] seen = new boolean[rows];
        for (int r = 0; r < rows; r++) {
            int length = 0;
            for (int at = r; !seen[at]; at = lead[at]) {
                seen[at] = true;
                length++;
            }
            BigInteger round = BigInteger.valueOf(Math.max(1, length));
            all = all.multiply(round).divide(all.gcd(round));
        }
        return all.toString();
    }

    /** No run of calls is known that comes as near to the bound: the cells of a's column are written from behind. */
    static void promise22_justBeyond(Trial t) {
        t.due("2 * 3 * .. * 23", powerOfCycles(2, 3, 5, 7, 11, 13, 17, 19, 23), 223092870);
        t.due("47 * 61 * 26 * 27 * 11 * 97", powerOfCycles(47, 61, 26, 27, 11, 97), 2147480478);
        t.due("59 * 23 * 15 * 34 * 29 * 107, beyond", powerOfCycles(59, 23, 15, 34, 29, 107), Trial.MOST_INT);
        t.due("8 * 9 * 5 * .. * 23, beyond", powerOfCycles(8, 9, 5, 7, 11, 13, 17, 19, 23), Trial.MOST_INT);
        t.due("2^32 and more", powerOfCycles(2, 3, 5, 7, 11, 13, 17, 19, 23, 29, 31, 37), Trial.MOST_INT);
        t.due("beyond, then 1", powerOfCycles(1, 2, 3, 5, 7, 11, 13, 17, 19, 23, 29, 31, 37, 41, 1), Trial.MOST_INT);
    }

    private static int powerOfCycles(int... lengths) {
        Trial t = new Trial();
        t.begin(0, 300);
        t.ask("a");
        try {
            Object table = field(t.inside(), "table").get(t.inside());
            int[] cells = (int[]) field(table, "cells").get(table);
            int[] order = (int[]) field(table, "order").get(table);
            int[] numbers = (int[]) field(table, "numbers").get(table);
            int start = 0;
            for (int length : lengths) {
                for (int k = 0; k < length; k++) {
                    order[start + k] = start + k;
                    numbers[start + k] = start + k;
                    cells[10 * (start + k)] = start + (k + 1) % length;
                }
                start += length;
            }
            field(table, "left").setInt(table, start);
            field(table, "state").setInt(table, 1);
        } catch (ReflectiveOperationException e) {
            throw new IllegalStateException(e);
        }
        return t.power();
    }

    private static Field field(Object of, String name) throws ReflectiveOperationException {
        Field found = of.getClass().getDeclaredField(name);
        found.setAccessible(true);
        return found;
    }

    // ---- 23: cycles

    static void promise23_notClosed(Trial t) {
        t.refused("no table", t.cycles(0, 1), 6);
        t.refused("no table, no such letter", t.cycles(1, 1), 6);
        t.six();
        t.begin(0, 300);
        t.refused("open", t.cycles(0, 2), 6);
        t.begin(0, 3);
        t.run(2000);
        t.refused("SPENT", t.cycles(0, 2), 6);
        Consumer<Trial> call = x -> x.refused("cycles", x.cycles(0, 1), 6);
        t.leavesAll("open", OPEN, call);
        t.leavesAll("no table", BARE, call);
    }

    static void promise23_lettersThereAre(Trial t) {
        sixClosed(t);
        t.agreed("letter 0", t.cycles(0, 2), 3);
        t.agreed("letter 1", t.cycles(1, 3), 2);
        for (int l : new int[] {-1, 2, 4, 5, Trial.LEAST_INT, Trial.MOST_INT}) t.refused("letter " + l, t.cycles(l, 1), 6);
        t.leavesAll("no such letter", CLOSED, x -> x.refused("letter 2", x.cycles(2, 1), 6));
        t.letters(5);
        t.subs("a", "b", "c", "d", "e");
        t.begin(0, 1);
        t.step();
        t.agreed("letter 4", t.cycles(4, 1), 1);
        t.refused("letter 5", t.cycles(5, 1), 6);
    }

    static void promise23_lengthsThereAreNoneOf(Trial t) {
        sixClosed(t);
        for (int n : new int[] {0, 1, 3, 6, 7, 300, 301, -1, -2, Trial.LEAST_INT, Trial.MOST_INT}) t.agreed("of " + n, t.cycles(0, n), 0);
        t.agreed("of 2", t.cycles(0, 2), 3);
        t.sub("a");
        t.begin(0, 300);
        t.run(2000);
        t.agreed("of 1", t.cycles(0, 1), 1);
        t.agreed("of 2", t.cycles(0, 2), 1);
        t.agreed("all rows in one", t.cycles(1, 3), 1);
    }

    // ---- 24: least

    static void promise24_notClosedOutStays(Trial t) {
        t.refused("no table", t.least(0), 6);
        t.refused("no table, no such row", t.least(-1), 6);
        Consumer<Trial> call = x -> x.refused("least(0)", x.least(0), 6);
        t.leavesAll("no table", BARE, call);
        t.leavesAll("open", OPEN, call);
        t.leavesAll("SPENT", SPENT, call);
        t.leavesAll("open, no such row", OPEN, x -> x.refused("least(9)", x.least(9), 6));
    }

    static void promise24_noSuchRowOutStays(Trial t) {
        for (int r : new int[] {-1, 3, 300, Trial.LEAST_INT, Trial.MOST_INT})
            t.leavesAll("least(" + r + ")", CLOSED, x -> x.refused("least(" + r + ")", x.least(r), 4));
        t.melted();
        t.tell(0, 0);
        t.refused("melted", t.least(2), 4);
        t.spells("OUT stays", "aa");
        t.agreed("the last one that is left", t.least(1), 1);
        t.spells("it", "a");
    }

    static void promise24_row0IsTheEmptyWord(Trial t) {
        sixClosed(t);
        t.tell(0, 0);
        t.agreed("least(0)", t.least(0), 0);
        t.spells("OUT", "");
        t.throwsNone("OUT", 0);
    }

    static void promise24_fewestLettersThenLeastColumns(Trial t) {
        t.letters(2);
        t.words("[a,b]", "a^4", "b^4");
        t.begin(0, 300);
        t.run(2000);
        String[][] words = {{"a^2", "aa"}, {"A^2", "aa"}, {"b^2a^2", "aabb"}, {"bA", "Ab"}, {"BA", "AB"}, {"ba", "ab"}, {"b^3", "B"}};
        for (String[] w : words) {
            t.ask(w[0]);
            t.agreed(w[0], t.least(t.lead(0)), w[1].length());
            t.spells(w[0], w[1]);
        }
    }

    static void promise24_allLettersBothWays(Trial t) {
        t.letters(5);
        t.words("a^3", "b^3", "[a,b]", "ac", "bd", "e");
        t.begin(2, 300);
        t.run(2000);
        t.due("index", t.index(), 9);
        t.rename();
        String[] words = {"", "a", "A", "b", "B", "ab", "aB", "Ab", "AB"};
        for (int r = 0; r < 9; r++) {
            t.agreed("least(" + r + ")", t.least(r), words[r].length());
            t.spells("least(" + r + ")", words[r]);
        }
        t.letters(5);
        t.words("a", "b", "c", "d", "e^3");
        t.begin(2, 300);
        t.run(2000);
        t.rename();
        t.least(1);
        t.spells("e", "e");
        t.least(2);
        t.spells("E", "E");
    }

    static void promise24_rowsInALine(Trial t) {
        t.letters(2);
        t.words("a^2", "b^2");
        t.subs("a", "(ba)^9 b a B (AB)^9");
        t.begin(1, 300);
        t.run(2000);
        t.due("20 rows in a line", t.index(), 20);
        t.agreed("from its one end to the other", t.least(t.farthest()), 19);
        t.spells("OUT", "ba".repeat(9) + "b");
    }

    // ---- 25: farthest

    static void promise25_notClosed(Trial t) {
        t.refused("no table", t.farthest(), 6);
        Consumer<Trial> call = x -> x.refused("farthest()", x.farthest(), 6);
        t.leavesAll("no table", BARE, call);
        t.leavesAll("open", OPEN, call);
        t.leavesAll("SPENT", SPENT, call);
    }

    static void promise25_ofAsManyTheLeastNumber(Trial t) {
        t.word("a^7");
        t.begin(0, 300);
        t.run(2000);
        t.agreed("rows 3 and 4 are three letters away", t.farthest(), 3);
        t.rename();
        t.agreed("rows 5 and 6", t.farthest(), 5);
        t.letters(1);
        t.word("a^6");
        t.begin(0, 300);
        t.run(2000);
        t.agreed("row 3 alone", t.farthest(), 3);
    }

    static void promise25_row0Alone(Trial t) {
        t.sub("a");
        t.begin(0, 1);
        t.run(1);
        t.agreed("farthest()", t.farthest(), 0);
    }

    static void promise25_outStays(Trial t) {
        sixClosed(t);
        t.tell(0, 0);
        t.agreed("farthest()", t.farthest(), 4);
        t.spells("OUT", "aa");
    }

    // ---- 26: tell

    static void promise26_sorts0To2(Trial t) {
        t.letters(2);
        t.words("a");
        t.subs("b");
        t.ask("ab");
        t.agreed("tell(0, 0)", t.tell(0, 0), 1);
        t.spells("WORD", "a");
        t.agreed("tell(1, 0)", t.tell(1, 0), 1);
        t.spells("SUBWORD", "b");
        t.agreed("tell(2, 0)", t.tell(2, 0), 2);
        t.spells("THE WORD", "ab");
        for (int sort : new int[] {-1, 3, Trial.LEAST_INT, Trial.MOST_INT}) t.refused("sort " + sort, t.tell(sort, 0), 4);
    }

    static void promise26_numbersThereAre(Trial t) {
        t.letters(2);
        t.words("a", "AB");
        t.subs("b", "ba", "BBB");
        t.agreed("the last WORD", t.tell(0, 1), 2);
        t.spells("WORD 1", "AB");
        t.refused("one beyond", t.tell(0, 2), 4);
        t.agreed("the last SUBWORD", t.tell(1, 2), 3);
        t.spells("SUBWORD 2", "BBB");
        t.refused("one beyond", t.tell(1, 3), 4);
        for (int far : new int[] {-1, 12, Trial.LEAST_INT, Trial.MOST_INT}) {
            t.refused("WORD " + far, t.tell(0, far), 4);
            t.refused("SUBWORD " + far, t.tell(1, far), 4);
        }
        t.ask("b");
        for (int any : new int[] {-1, 9, Trial.LEAST_INT, Trial.MOST_INT}) t.agreed("THE WORD by any number", t.tell(2, any), 1);
    }

    static void promise26_refusedOutStays(Trial t) {
        int[][] wrong = {{0, 3}, {0, -1}, {1, 1}, {1, -1}, {-1, 0}, {3, 0}};
        for (int[] w : wrong)
            t.leavesAll("tell", OPEN, x -> x.refused("tell(" + w[0] + ", " + w[1] + ")", x.tell(w[0], w[1]), 4));
    }

    static void promise26_fortyLettersAndNone(Trial t) {
        t.letters(5);
        t.words("(abcdeABCDE)^4");
        t.agreed("forty", t.tell(0, 0), 40);
        t.spells("forty", "abcdeABCDE".repeat(4));
        t.agreed("none", t.tell(2, 0), 0);
        t.spells("none", "");
    }

    // ---- 27: out

    static void promise27_firstLastAndBeyond(Trial t) {
        t.letters(2);
        t.throwsNone("nothing is told yet", 0);
        t.words("aB");
        t.throwsNone("nothing is told yet", 0);
        t.tell(0, 0);
        t.due("the first", t.out(0), 'a');
        t.due("the last", t.out(1), 'B');
        t.throwsNone("one beyond", 2);
        for (int far : FAR) t.throwsNone("far", far);
        t.words("a^40");
        t.tell(0, 1);
        t.due("the fortieth", t.out(39), 'a');
        t.throwsNone("one beyond", 40);
        t.tell(0, 0);
        t.throwsNone("what was told before", 2);
        t.tell(2, 0);
        t.throwsNone("an empty one", 0);
    }

    static void promise27_leavesTheReason(Trial t) {
        t.word("a");
        t.tell(0, 0);
        t.mark();
        t.out(0);
        t.throwsNone("beyond", 1);
        t.marked("out");
    }

    static void promise27_staysBehindOtherCalls(Trial t) {
        t.closed();
        t.tell(0, 2);
        t.ask("b");
        t.word("b");
        t.drop(false);
        t.letters(3);
        t.spells("OUT", "abab");
    }

    public static void main(String[] args) {
        Trial.runAll(TableBoundaryTest.class, "promise10", "promise11", "promise12", "promise13", "promise14", "promise15",
            "promise16", "promise17", "promise18", "promise19", "promise20", "promise21", "promise22", "promise23", "promise24",
            "promise25", "promise26", "promise27");
    }
}
