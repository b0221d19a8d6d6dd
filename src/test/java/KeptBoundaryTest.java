import java.util.function.Consumer;

/** Each boundary case that promises 33 to 39 name, by the promise. */
public final class KeptBoundaryTest {
    private static final Consumer<Trial> OPEN = x -> { x.open(); x.tape("ab"); };
    private static final Consumer<Trial> BARE = x -> { x.bare(); x.tape("ab"); };

    // ---- 33: keep

    static void promise33_withoutATable(Trial t) {
        t.refused("of a new object", t.keep(), 5);
        t.leavesAll("keep()", BARE, x -> x.refused("keep()", x.keep(), 5));
        t.begin(0, 3);
        t.word("a");
        t.refused("behind word()", t.keep(), 5);
    }

    static void promise33_inPlaceOfAnotherOne(Trial t) {
        t.begin(1, 10);
        t.run(3);
        t.agreed("the first", t.keep());
        t.run(3);
        t.agreed("the second", t.keep());
        t.run(2000);
        t.agreed("back()", t.back());
        t.abouts("the second", 6, 6, 0, 6, 6, 2, 0, 0, 6, 0);
    }

    static void promise33_asItIs(Trial t) {
        for (int s = 0; s < 5; s++) {
            int strategy = s;
            Consumer<Trial> story = x -> { x.gap(strategy, 5); x.keep(); };
            t.leavesAll("goes on, " + s, story, x -> {
                x.run(2000);
                x.pack();
                x.begin(0, 1);
                x.step();
                x.agreed("back()", x.back());
            });
        }
        Consumer<Trial> begun = x -> { x.letters(2); x.begin(0, 6); x.keep(); };
        t.leavesAll("row 0 is not DONE", begun, x -> { x.run(2); x.agreed("back()", x.back()); });
        Consumer<Trial> done = x -> { x.letters(2); x.begin(0, 6); x.run(2); x.keep(); };
        t.leavesAll("row 0 is DONE", done, x -> { x.begin(0, 6); x.step(); x.agreed("back()", x.back()); });
        Consumer<Trial> closed = x -> { x.melted(); x.keep(); };
        t.leavesAll("CLOSED", closed, x -> { x.rename(); x.pack(); x.agreed("back()", x.back()); });
        Consumer<Trial> ring = x -> { x.word("a^7"); x.begin(0, 300); x.run(2); x.keep(); };
        t.leavesAll("CLOSED, ahead of rename()", ring, x -> { x.rename(); x.agreed("back()", x.back()); });
        Consumer<Trial> spent = x -> { x.gap(0, 4); x.step(); x.keep(); };
        t.leavesAll("SPENT", spent, x -> { x.begin(1, 300); x.run(9); x.agreed("back()", x.back()); });
    }

    // ---- 34: back

    static void promise34_noneIsKept(Trial t) {
        t.refused("of a new object", t.back(), 7);
        t.begin(0, 3);
        t.run(2);
        t.refused("with a table", t.back(), 7);
        t.abouts("the table stays", 3, 3, 0, 3, 2);
        t.leavesAll("back()", BARE, x -> x.refused("back()", x.back(), 7));
        t.leavesAll("back()", x -> { x.letters(2); x.begin(0, 4); x.run(2); }, x -> x.refused("back()", x.back(), 7));
    }

    static void promise34_backMoreThanOnce(Trial t) {
        t.begin(0, 9);
        t.run(2);
        t.keep();
        for (int k = 0; k < 3; k++) {
            t.run(2000);
            t.agreed("back()", t.back());
            t.abouts("as it was", 3, 3, 0, 3, 2, 2, 0, 0, 3, 1);
        }
    }

    private static void gone(Trial t, String what, Consumer<Trial> change) {
        Trial x = new Trial();
        x.six();
        x.subs("a");
        x.begin(0, 300);
        x.keep();
        change.accept(x);
        x.refused(what, x.back(), 7);
        x.due(what + ": no table", x.about(0), Trial.NONE);
        x.begin(0, 300);
        x.refused(what + ", with a new table", x.back(), 7);
        x.due(what + ": it stays", x.about(0), 1);
        x.keep();
        x.agreed(what + ", one that is KEPT since", x.back());
    }

    static void promise34_changedByLetters(Trial t) {
        gone(t, "letters(3)", x -> x.agreed("letters(3)", x.letters(3)));
        gone(t, "letters(2), as before", x -> x.agreed("letters(2)", x.letters(2)));
    }

    static void promise34_changedByWord(Trial t) {
        gone(t, "word()", x -> x.agreed("word()", x.word("b"), 1));
        gone(t, "word(), then drop()", x -> { x.word("b"); x.drop(false); });
    }

    static void promise34_changedBySub(Trial t) {
        gone(t, "sub()", x -> x.agreed("sub()", x.sub("b"), 1));
        gone(t, "sub(), then drop()", x -> { x.sub("b"); x.drop(true); });
    }

    static void promise34_changedByDrop(Trial t) {
        gone(t, "drop(false)", x -> x.agreed("drop(false)", x.drop(false)));
        gone(t, "drop(true)", x -> x.agreed("drop(true)", x.drop(true)));
        gone(t, "drop(), then word()", x -> { x.drop(false); x.word("(ab)^2"); });
    }

    static void promise34_notChangedByRefusedOrEmptyOnes(Trial t) {
        for (int k = 0; k < 12; k++) t.word("a^2");
        t.begin(0, 300);
        t.run(2);
        t.keep();
        t.refused("letters(0)", t.letters(0), 1);
        t.refused("letters(6)", t.letters(6), 1);
        t.faulty("word", t.word("?"), 1, 0);
        t.refused("a thirteenth", t.word("a"), 3);
        t.refused("word(-1)", t.word(-1), 1);
        t.faulty("sub", t.sub("?"), 1, 0);
        t.agreed("an empty SUBWORD", t.sub("1"), 0);
        t.refused("no SUBWORD", t.drop(true), 4);
        t.agreed("ask", t.ask("a"), 1);
        t.agreed("low(1)", t.low(1), 1);
        t.agreed("begin", t.begin(1, 5));
        t.agreed("back()", t.back());
        t.abouts("as it was", 2, 2, 0, 2, 2, 0, 1);
        t.letters(1);
        t.word("a");
        t.begin(0, 300);
        t.keep();
        t.agreed("an empty WORD", t.word("1"), 0);
        t.agreed("back()", t.back());
    }

    // ---- 35: sheet

    static void promise35_rows0To40(Trial t) {
        for (int n : new int[] {0, 1, 39, 40}) t.agreed("sheet(" + n + ")", t.sheet(n));
        for (int n : new int[] {-1, 41, Trial.LEAST_INT, Trial.MOST_INT}) t.refused("sheet(" + n + ")", t.sheet(n), 1);
    }

    static void promise35_refusedLeavesTheSheet(Trial t) {
        for (int n : new int[] {-1, 41}) t.leavesAll("sheet(" + n + ")", OPEN, x -> x.refused("sheet(" + n + ")", x.sheet(n), 1));
        t.told(new int[] {1, 1}, new int[] {0, 0});
        t.refused("sheet(41)", t.sheet(41), 1);
        t.due("right still", t.check(), Trial.RIGHT);
    }

    static void promise35_emptyCells(Trial t) {
        t.told(new int[] {1, 1}, new int[] {0, 0});
        t.due("right", t.check(), Trial.RIGHT);
        t.agreed("as many rows again", t.sheet(2));
        t.due("empty", t.check(), 1);
        t.put(0, 0, 0);
        t.due("its second cell, too", t.check(), 11);
        t.put(0, 1, 0);
        t.due("its next row, too", t.check(), 1001);
        t.put(1, 0, 1);
        t.due("its last cell, too", t.check(), 1011);
    }

    static void promise35_noRows(Trial t) {
        t.told(new int[] {0, 0});
        t.agreed("sheet(0)", t.sheet(0));
        t.due("none", t.check(), Trial.NONE);
        t.refused("no row", t.put(0, 0, 0), 1);
    }

    static void promise35_fortyRows(Trial t) {
        t.sheet(40);
        for (int r = 0; r < 40; r++) {
            t.put(r, 0, (r + 1) % 40);
            t.put((r + 1) % 40, 1, r);
        }
        t.due("a ring of 40", t.check(), Trial.RIGHT);
        t.word("a^40");
        t.due("a^40 comes round", t.check(), Trial.RIGHT);
        t.word("a^20");
        t.due("a^20 does not", t.check(), 3);
        t.letters(1);
        t.put(39, 1, 40);
        t.due("40 is none of its rows", t.check(), 39011);
    }

    // ---- 36: put

    static void promise36_rowsThereAre(Trial t) {
        t.refused("no rows yet", t.put(0, 0, 0), 1);
        t.sheet(3);
        t.agreed("row 0", t.put(0, 0, 0));
        t.agreed("row 2", t.put(2, 0, 0));
        t.refused("row 3", t.put(3, 0, 0), 1);
        for (int r : new int[] {-1, 40, Trial.LEAST_INT, Trial.MOST_INT}) t.refused("row " + r, t.put(r, 0, 0), 1);
        t.sheet(40);
        t.agreed("row 39", t.put(39, 9, 0));
        t.refused("row 40", t.put(40, 0, 0), 1);
        t.sheet(2);
        t.refused("row 2 of two", t.put(2, 0, 0), 1);
    }

    static void promise36_columns0To9(Trial t) {
        t.sheet(1);
        t.agreed("column 0", t.put(0, 0, 0));
        t.agreed("column 9, with one letter", t.put(0, 9, 0));
        for (int c : new int[] {-1, 10, Trial.LEAST_INT, Trial.MOST_INT}) t.refused("column " + c, t.put(0, c, 0), 1);
    }

    static void promise36_refusedLeavesTheSheet(Trial t) {
        int[][] wrong = {{1, 0}, {-1, 0}, {0, -1}, {0, 10}, {-1, 9}};
        for (int[] w : wrong)
            t.leavesAll("put", OPEN, x -> x.refused("put(" + w[0] + ", " + w[1] + ", 7)", x.put(w[0], w[1], 7), 1));
        t.letters(5);
        t.told(new int[] {1, 1, 1, 1, 1, 1, 1, 1, 1, 1}, new int[] {0, 0, 0, 0, 0, 0, 0, 0, 0, 0});
        for (int[] w : new int[][] {{0, 10}, {1, -1}, {-1, 9}, {2, 0}, {0, -1}, {1, 10}}) {
            t.refused("put(" + w[0] + ", " + w[1] + ", 7)", t.put(w[0], w[1], 7), 1);
            t.due("right still", t.check(), Trial.RIGHT);
        }
    }

    static void promise36_anyNumber(Trial t) {
        t.sheet(1);
        t.put(0, 1, 0);
        for (int v : new int[] {1, -1, -2, -3, Trial.LEAST_INT, Trial.MOST_INT}) {
            t.agreed("put " + v, t.put(0, 0, v));
            t.due("none of its rows", t.check(), 1);
        }
        t.agreed("put 0", t.put(0, 0, 0));
        t.due("right", t.check(), Trial.RIGHT);
    }

    // ---- 37: check

    static void promise37_withoutRows(Trial t) {
        t.due("of a new object", t.check(), Trial.NONE);
        t.sheet(1);
        t.due("one row", t.check(), 1);
        t.sheet(0);
        t.due("no rows", t.check(), Trial.NONE);
        t.mark();
        t.check();
        t.sheet(1);
        t.mark();
        t.check();
        t.marked("check");
    }

    static void promise37_oneRow(Trial t) {
        t.letters(2);
        t.words("a", "b", "[a,b]");
        t.subs("a", "b");
        t.told(new int[] {0, 0, 0, 0});
        t.due("right", t.check(), Trial.RIGHT);
    }

    static void promise37_noneOfItsRows(Trial t) {
        t.letters(2);
        int[][] right = {{1, 1, 0, 0}, {0, 0, 1, 1}};
        for (int r = 0; r < 2; r++)
            for (int c = 0; c < 4; c++)
                for (int v : new int[] {-1, 2, Trial.LEAST_INT, Trial.MOST_INT}) {
                    t.told(right);
                    t.put(r, c, v);
                    t.due("row " + r + ", column " + c + ": " + v, t.check(), 1000 * r + 10 * c + 1);
                }
        t.told(right);
        t.due("right", t.check(), Trial.RIGHT);
        t.put(1, 0, 9);
        t.put(0, 3, 9);
        t.put(1, 3, 9);
        t.due("by rows, columns", t.check(), 31);
    }

    static void promise37_theLastCell(Trial t) {
        t.letters(5);
        t.sheet(40);
        for (int r = 0; r < 40; r++) for (int c = 0; c < 10; c++) if (10 * r + c < 399) t.put(r, c, r);
        t.due("row 39, column 9", t.check(), 39091);
        t.put(39, 9, 39);
        t.due("row 1 is not reached", t.check(), 1005);
    }

    static void promise37_columnsThereAre(Trial t) {
        t.told(new int[] {0, 0, 7, 7});
        t.due("with one letter", t.check(), Trial.RIGHT);
        t.letters(2);
        t.due("with two", t.check(), 21);
        t.letters(1);
        t.due("with one again", t.check(), Trial.RIGHT);
    }

    static void promise37_doesNotLeadBack(Trial t) {
        t.letters(2);
        t.told(new int[] {0, 0, 1, 0}, new int[] {1, 1, 0, 0});
        t.due("row 0, column 2 does, column 3 does not", t.check(), 32);
        t.told(new int[] {0, 0, 0, 1}, new int[] {1, 1, 0, 0});
        t.due("column 2", t.check(), 22);
        t.told(new int[] {0, 0, 0, 0}, new int[] {1, 1, 2, 1}, new int[] {2, 2, 0, 1});
        t.due("row 1, column 3", t.check(), 1032);
        t.told(new int[] {1, 1, 1, 1}, new int[] {0, 1, 1, 0});
        t.due("by rows, columns: row 0, column 0", t.check(), 2);
    }

    static void promise37_noneOfItsRowsAheadOfNotBack(Trial t) {
        t.told(new int[] {1, 1}, new int[] {1, 9});
        t.due("the last cell", t.check(), 1011);
        t.told(new int[] {1, 1}, new int[] {1, 1});
        t.due("row 0, column 0", t.check(), 2);
    }

    static void promise37_aWordDoesNotComeRound(Trial t) {
        t.letters(2);
        t.told(new int[] {0, 0, 1, 2}, new int[] {2, 2, 2, 0}, new int[] {1, 1, 0, 1});
        t.words("b^3");
        t.due("b^3 does", t.check(), Trial.RIGHT);
        t.words("a");
        t.due("a does from row 0, not from row 1", t.check(), 1003);
        t.words("b");
        t.due("b does not from row 0", t.check(), 3);
        t.drop(false);
        t.drop(false);
        t.due("they are gone", t.check(), Trial.RIGHT);
    }

    static void promise37_aSubwordFromRow0(Trial t) {
        t.letters(2);
        t.told(new int[] {0, 0, 1, 2}, new int[] {2, 2, 2, 0}, new int[] {1, 1, 0, 1});
        t.subs("a");
        t.due("a does from row 0", t.check(), Trial.RIGHT);
        t.subs("b");
        t.due("b does not", t.check(), 4);
        t.words("a");
        t.due("a WORD ahead of it", t.check(), 1003);
    }

    static void promise37_notReachedFromRow0(Trial t) {
        t.told(new int[] {0, 0}, new int[] {1, 1});
        t.due("row 1", t.check(), 1005);
        t.told(new int[] {2, 2}, new int[] {1, 1}, new int[] {0, 0}, new int[] {3, 3});
        t.due("the first by rows", t.check(), 1005);
        t.told(new int[] {1, 2}, new int[] {2, 0}, new int[] {0, 1}, new int[] {3, 3});
        t.due("the last row", t.check(), 3005);
        t.sub("a^2");
        t.due("a SUBWORD ahead of it", t.check(), 4);
        t.letters(1);
        t.word("a^3");
        t.due("a WORD comes round", t.check(), 3005);
        t.word("a^2");
        t.due("a WORD ahead of it", t.check(), 3);
    }

    static void promise37_theTableIsOfNoMatter(Trial t) {
        t.told(new int[] {0, 0});
        t.begin(0, 1);
        t.run(2);
        t.due("right", t.check(), Trial.RIGHT);
        t.due("and the table stays", t.about(4), 2);
    }

    // ---- 38: trouble

    static void promise38_eachReason(Trial t) {
        t.due("0 at first", t.trouble(), 0);
        t.letters(0);
        t.due("1 a number", t.trouble(), 1);
        t.ask("?");
        t.due("2 a FAULT", t.trouble(), 2);
        for (int k = 0; k < 7; k++) t.sub("a");
        t.due("3 no room", t.trouble(), 3);
        t.tell(0, 0);
        t.due("4 there is none such", t.trouble(), 4);
        t.pack();
        t.due("5 no table", t.trouble(), 5);
        t.farthest();
        t.due("6 it isn't CLOSED", t.trouble(), 6);
        t.back();
        t.due("7 none is KEPT", t.trouble(), 7);
        t.due("7, asked again", t.trouble(), 7);
        t.low(1);
        t.due("0 it wasn't", t.trouble(), 0);
    }

    private static void clears(Trial t, String what, Consumer<Trial> call) {
        t.refused("back()", t.back(), 7);
        call.accept(t);
        t.due(what + ": trouble()", t.trouble(), 0);
        t.due(what + ": where()", t.where(), Trial.NONE);
    }

    static void promise38_ofEachCallThatMayBeRefused(Trial t) {
        clears(t, "letters", x -> x.letters(2));
        clears(t, "word", x -> x.word("a"));
        clears(t, "an empty word", x -> x.word("1"));
        clears(t, "sub", x -> x.sub("a"));
        clears(t, "ask", x -> x.ask("b"));
        clears(t, "drop", x -> x.drop(true));
        t.word("b");
        clears(t, "begin", x -> x.begin(0, 3));
        clears(t, "step", x -> x.step());
        clears(t, "run", x -> x.run(2000));
        clears(t, "pack", x -> x.pack());
        clears(t, "rename", x -> x.rename());
        clears(t, "cycles", x -> x.cycles(0, 1));
        clears(t, "least", x -> x.least(0));
        clears(t, "farthest", x -> x.farthest());
        clears(t, "tell", x -> x.tell(2, 0));
        clears(t, "low", x -> x.low(1));
        clears(t, "sheet", x -> x.sheet(1));
        clears(t, "put", x -> x.put(0, 0, 0));
        clears(t, "keep", x -> x.keep());
        t.ask("?");
        t.agreed("back()", t.back());
    }

    // ---- 39: where

    static void promise39_aheadOfAny(Trial t) {
        t.due("where()", t.where(), Trial.NONE);
    }

    static void promise39_thePlaceOfAFault(Trial t) {
        t.faulty("word, at 0", t.word("?"), 1, 0);
        t.faulty("sub, at its end", t.sub("a^"), 1, 2);
        t.faulty("ask, at 399", t.ask(" ".repeat(399) + "?"), 1, 399);
        t.faulty("ask, at 400", t.ask(" ".repeat(400)), 1, 400);
        t.due("asked again", t.where(), 400);
    }

    static void promise39_elseNone(Trial t) {
        t.ask("?");
        t.refused("by 1", t.ask(1), 1);
        for (int k = 0; k < 6; k++) t.sub("a");
        t.ask("?");
        t.refused("by 3", t.sub("a"), 3);
        t.ask("?");
        t.refused("by 4", t.drop(false), 4);
        t.ask("?");
        t.refused("by 5", t.step(), 5);
        t.ask("?");
        t.refused("by 6", t.rename(), 6);
        t.ask("?");
        t.refused("by 7", t.back(), 7);
        t.ask("?");
        t.agreed("it wasn't", t.ask("a"), 1);
        t.ask("?");
        t.agreed("it wasn't", t.tell(2, 0), 1);
    }

    static void promise39_leavesTheReason(Trial t) {
        t.mark();
        t.where();
        t.trouble();
        t.marked("where");
    }

    public static void main(String[] args) {
        Trial.runAll(KeptBoundaryTest.class, "promise33", "promise34", "promise35", "promise36", "promise37", "promise38", "promise39");
    }
}
