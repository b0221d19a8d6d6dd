/** Each boundary case that promises 28 to 32 name, by the promise. */
public final class LowBoundaryTest {
    private static final int[] FAR = {-1, Trial.LEAST_INT, Trial.MOST_INT};

    // ---- 28: low

    static void promise28_rows1To6(Trial t) {
        t.agreed("low(1)", t.low(1), 1);
        t.agreed("low(6)", t.low(6), 6);
        for (int n : new int[] {0, 7, -1, Trial.LEAST_INT, Trial.MOST_INT}) t.refused("low(" + n + ")", t.low(n), 1);
    }

    static void promise28_refusedLeavesAll(Trial t) {
        for (int n : new int[] {0, 7, -1}) {
            t.leavesAll("open", x -> { x.open(); x.tape("ab"); }, x -> x.refused("low(" + n + ")", x.low(n), 1));
            t.leavesAll("ahead of any", x -> x.letters(2), x -> x.refused("low(" + n + ")", x.low(n), 1));
        }
    }

    static void promise28_theTableStays(Trial t) {
        t.closed();
        t.agreed("low(3)", t.low(3), 3);
        t.due("index()", t.index(), 3);
        t.agreed("what is KEPT, too", t.back());
    }

    static void promise28_subwordsAreOfNoMatter(Trial t) {
        t.six();
        t.agreed("without", t.low(6), 4);
        int tries = t.lowly(0);
        t.subs("a", "b");
        t.agreed("with", t.low(6), 4);
        t.due("TRIES", t.lowly(0), tries);
    }

    static void promise28_noWords(Trial t) {
        t.letters(2);
        int[] found = {1, 4, 11, 37};
        for (int n = 1; n <= 4; n++) t.agreed("low(" + n + ")", t.low(n), found[n - 1]);
    }

    static void promise28_allIsNothing(Trial t) {
        t.letters(5);
        t.words("a", "b", "c", "d", "e");
        t.agreed("low(6)", t.low(6), 1);
        t.due("size(0)", t.size(0), 1);
        t.due("no other", t.size(1), Trial.NONE);
    }

    static void promise28_inPlaceOfTheLatest(Trial t) {
        t.low(6);
        t.due("size(5)", t.size(5), 6);
        t.agreed("low(2)", t.low(2), 2);
        t.due("size(1)", t.size(1), 2);
        t.due("no third", t.size(2), Trial.NONE);
        t.due("no third", t.small(2, 0, 0), Trial.NONE);
        t.due("no third", t.normal(2), Trial.NONE);
    }

    static void promise28_sixRowsOfFiveLetters(Trial t) {
        t.letters(5);
        t.words("a^6", "bA", "cA", "dA", "eA");
        t.agreed("low(6)", t.low(6), 4);
        int[] sizes = {1, 2, 3, 6};
        for (int i = 0; i < 4; i++) t.due("size(" + i + ")", t.size(i), sizes[i]);
        for (int c = 0; c < 10; c++) {
            t.due("row 0, column " + c, t.small(3, 0, c), 1 + c % 2);
            t.due("row 5, column " + c, t.small(3, 5, c), c % 2 == 0 ? 4 : 3);
        }
    }

    // ---- 29: lowly

    static void promise29_aheadOfAny(Trial t) {
        t.due("TRIES", t.lowly(0), Trial.NONE);
        t.due("ENDED", t.lowly(1), Trial.NONE);
        t.low(0);
        t.due("a refused one is none", t.lowly(0), Trial.NONE);
        t.low(1);
        t.due("TRIES", t.lowly(0), 1);
        t.due("ENDED", t.lowly(1), 0);
    }

    static void promise29_forOthers(Trial t) {
        t.low(1);
        t.due("lowly(2)", t.lowly(2), Trial.NONE);
        for (int far : FAR) t.due("lowly(" + far + ")", t.lowly(far), Trial.NONE);
    }

    static void promise29_ofTheLatest(Trial t) {
        t.letters(5);
        t.low(6);
        t.due("TRIES", t.lowly(0), 3000);
        t.due("ENDED", t.lowly(1), 1);
        t.low(7);
        t.due("behind a refused one", t.lowly(0), 3000);
        t.due("behind a refused one", t.lowly(1), 1);
        t.low(1);
        t.due("TRIES: one of each letter", t.lowly(0), 5);
        t.due("not ENDED", t.lowly(1), 0);
        t.letters(1);
        t.due("behind letters()", t.lowly(0), 5);
    }

    static void promise29_leavesTheReason(Trial t) {
        t.low(1);
        t.mark();
        t.lowly(0);
        t.lowly(2);
        t.marked("lowly");
    }

    // ---- 30: small

    static void promise30_aheadOfAny(Trial t) {
        t.due("small(0, 0, 0)", t.small(0, 0, 0), Trial.NONE);
        t.low(7);
        t.due("behind a refused one", t.small(0, 0, 0), Trial.NONE);
    }

    static void promise30_firstLastAndBeyond(Trial t) {
        t.low(6);
        t.due("the first one", t.small(0, 0, 0), 0);
        t.due("the last cell", t.small(5, 5, 1), 3);
        t.due("one beyond", t.small(6, 0, 0), Trial.NONE);
        t.due("its next row", t.small(5, 6, 0), Trial.NONE);
        t.due("its next column", t.small(5, 5, 2), Trial.NONE);
        t.due("the next row of the first", t.small(0, 1, 0), Trial.NONE);
        t.due("the next row of the fifth", t.small(4, 5, 0), Trial.NONE);
        for (int far : FAR) {
            t.due("number " + far, t.small(far, 0, 0), Trial.NONE);
            t.due("row " + far, t.small(0, far, 0), Trial.NONE);
            t.due("column " + far, t.small(0, 0, far), Trial.NONE);
        }
    }

    static void promise30_theLessFirst(Trial t) {
        t.six();
        t.low(6);
        int[][][] all = {
            {{0, 0, 0, 0}},
            {{0, 0, 1, 2}, {2, 2, 2, 0}, {1, 1, 0, 1}},
            {{1, 1, 0, 0}, {0, 0, 1, 1}},
            {{1, 1, 2, 3}, {0, 0, 4, 5}, {5, 5, 3, 0}, {4, 4, 0, 2}, {3, 3, 5, 1}, {2, 2, 1, 4}},
        };
        for (int i = 0; i < 4; i++)
            for (int r = 0; r < all[i].length; r++)
                for (int c = 0; c < 4; c++) t.due("small(" + i + ", " + r + ", " + c + ")", t.small(i, r, c), all[i][r][c]);
    }

    static void promise30_theFortieth(Trial t) {
        t.letters(2);
        t.due("more than 40", t.low(5) > 40, true);
        t.due("the fortieth", t.small(39, 0, 0) >= 0, true);
        t.due("no more", t.small(40, 0, 0), Trial.NONE);
        for (int i = 1; i < 40; i++) {
            Trial x = new Trial();
            x.letters(2);
            x.low(5);
            x.due("less than number " + i, less(x, i - 1, i), true);
        }
    }

    private static boolean less(Trial t, int i, int k) {
        for (int r = 0; r < 5; r++)
            for (int c = 0; c < 4; c++) {
                int one = t.small(i, r, c);
                int other = t.small(k, r, c);
                if (one != other) return one < other;
            }
        return false;
    }

    static void promise30_columnsOfThatLow(Trial t) {
        t.letters(2);
        t.low(1);
        t.letters(5);
        t.due("the last column", t.small(0, 0, 3), 0);
        t.due("one beyond", t.small(0, 0, 4), Trial.NONE);
        t.low(1);
        t.due("the last column", t.small(0, 0, 9), 0);
        t.due("one beyond", t.small(0, 0, 10), Trial.NONE);
    }

    static void promise30_leavesTheReason(Trial t) {
        t.low(1);
        t.mark();
        t.small(0, 0, 0);
        t.small(1, 0, 0);
        t.marked("small");
    }

    // ---- 31: size

    static void promise31_firstLastAndBeyond(Trial t) {
        t.due("ahead of any", t.size(0), Trial.NONE);
        t.low(6);
        for (int i = 0; i < 6; i++) t.due("size(" + i + ")", t.size(i), i + 1);
        t.due("one beyond", t.size(6), Trial.NONE);
        for (int far : FAR) t.due("size(" + far + ")", t.size(far), Trial.NONE);
    }

    static void promise31_theFortieth(Trial t) {
        t.letters(2);
        t.low(5);
        t.due("the fortieth", t.size(39) >= 1, true);
        t.due("no more", t.size(40), Trial.NONE);
        t.mark();
        t.size(0);
        t.size(40);
        t.marked("size");
    }

    // ---- 32: normal

    static void promise32_firstLastAndBeyond(Trial t) {
        t.due("ahead of any", t.normal(0), Trial.NONE);
        t.six();
        t.low(6);
        int[] want = {1, 0, 1, 1};
        for (int i = 0; i < 4; i++) t.due("normal(" + i + ")", t.normal(i), want[i]);
        t.due("one beyond", t.normal(4), Trial.NONE);
        for (int far : FAR) t.due("normal(" + far + ")", t.normal(far), Trial.NONE);
    }

    /** Of the turnings of a square: from row 1 it is the same, but not from row 2, or the other way about. */
    static void promise32_fromEachRow(Trial t) {
        t.letters(2);
        t.words("a^2", "b^2", "(ab)^4");
        int found = t.low(4);
        int fours = 0;
        int normal = 0;
        for (int i = 0; i < found; i++) {
            fours += t.size(i) == 4 ? 1 : 0;
            normal += t.size(i) == 4 && t.normal(i) == 1 ? 1 : 0;
        }
        t.due("subgroups of two elements, but for turnings about", fours, 3);
        t.due("the one in the middle is normal", normal, 1);
    }

    static void promise32_theFortieth(Trial t) {
        t.letters(2);
        t.low(5);
        t.due("the fortieth", t.normal(39) >= 0, true);
        t.due("no more", t.normal(40), Trial.NONE);
        t.mark();
        t.normal(0);
        t.normal(40);
        t.marked("normal");
    }

    public static void main(String[] args) {
        Trial.runAll(LowBoundaryTest.class, "promise28", "promise29", "promise30", "promise31", "promise32");
    }
}
