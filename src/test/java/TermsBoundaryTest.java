/** Each boundary case that the Terms name, by the term. */
public final class TermsBoundaryTest {
    private static final int FORM = 1;
    private static final int LONG = 2;
    private static final int DEEP = 3;
    private static final int NUMBER = 4;
    private static final int E = Trial.EMPTY;

    // ---- I: bounds

    static void term1_lettersOneToFive(Trial t) {
        t.agreed("one", t.letters(1));
        t.agreed("five", t.letters(5));
        t.refused("none", t.letters(0), 1);
        t.refused("six", t.letters(6), 1);
        t.reads("abcdeABCDE", "abcdeABCDE");
    }

    static void term1_twelveWords(Trial t) {
        for (int k = 1; k <= 12; k++) t.agreed("WORD " + k, t.word("a"), 1);
        t.refused("WORD 13", t.word("a"), 3);
        t.agreed("the twelfth", t.tell(0, 11), 1);
        t.refused("no thirteenth", t.tell(0, 12), 4);
    }

    static void term1_sixSubwords(Trial t) {
        for (int k = 1; k <= 6; k++) t.agreed("SUBWORD " + k, t.sub("a"), 1);
        t.refused("SUBWORD 7", t.sub("a"), 3);
        t.agreed("the sixth", t.tell(1, 5), 1);
        t.refused("no seventh", t.tell(1, 6), 4);
    }

    static void term1_fortyLetters(Trial t) {
        t.agreed("a WORD of 40", t.word("a^40"), 40);
        t.agreed("a SUBWORD of 40", t.sub("a^40"), 40);
        t.agreed("THE WORD of 40", t.ask("a^40"), 40);
        t.faulty("a WORD of 41", t.word("a^41"), LONG, 0);
        t.faulty("a SUBWORD of 41", t.sub("a^41"), LONG, 0);
        t.faulty("THE WORD of 41", t.ask("a^41"), LONG, 0);
    }

    static void term1_textsOf400Bytes(Trial t) {
        t.letters(2);
        t.agreed("a letter at the last place", t.word(" ".repeat(399) + "b"), 1);
        t.agreed("400 letters", t.word("aA".repeat(199) + "ab"), 2);
        t.faulty("a FAULT at the last place", t.word(" ".repeat(399) + "?"), FORM, 399);
        t.faulty("400 blanks", t.word(" ".repeat(400)), FORM, 400);
    }

    static void term1_eightBrackets(Trial t) {
        t.letters(2);
        t.reads("((((((((a))))))))", "a");
        t.reads("[[[[[[[[a,b],1],1],1],1],1],1],1]", "");
        t.reads("[1,[1,[1,[1,[1,[1,[1,[a,1]]]]]]]]", "");
        t.reads("(".repeat(7) + "[a,b]" + ")".repeat(7), "ABab");
        t.faulty("(((((((((a)))))))))", DEEP, 8);
        t.faulty("[[[[[[[[[a,b", DEEP, 8);
        t.faulty("([([([([(", DEEP, 8);
        t.faulty("[1,[1,[1,[1,[1,[1,[1,[1,[a", DEEP, 24);
    }

    static void term1_bracketsThatAreClosedDoNotCount(Trial t) {
        t.reads("(a)".repeat(12), "a".repeat(12));
        t.reads("((((((((a))))))))((((((((A))))))))a", "a");
        t.faulty("((((((((a)(a))))))))(((((((((", DEEP, 28);
        t.faulty("((((((((a)(a)))))))((((((((", DEEP, 26);
    }

    static void term1_oneRowAtOnce(Trial t) {
        for (int s = 0; s < 5; s++) {
            t.agreed("begin", t.begin(s, 1));
            t.agreed("the first STEP", t.step(), 0);
            t.agreed("a second row is one too many", t.step(), 2);
            t.abouts("strategy " + s, 1, 1, 0, 1, 2, 2, 2, 0, 1, 0);
        }
    }

    static void term1_threeHundredRowsAtOnce(Trial t) {
        for (int s = 0; s < 5; s++) {
            t.agreed("begin", t.begin(s, 300));
            t.agreed("SPENT", t.run(2000), 2);
            t.due("rows, " + s, t.about(0), 300);
            t.due("the most at once, " + s, t.about(3), 300);
            t.due("row 299, " + s, t.row(299), 299);
            t.agreed("begin", t.begin(s, 299));
            t.agreed("SPENT", t.run(2000), 2);
            t.due("rows as told, " + s, t.about(0), 299);
        }
    }

    /** Rows melt about as fast as they are made, so that 2,000 are made ahead of as many as are told. */
    static void term1_twoThousandMade(Trial t) {
        t.letters(4);
        t.words("AdCC", "ACCa", "ADbaCBAD", "D");
        t.subs("d");
        for (int s : new int[] {0, 2, 3}) {
            t.begin(s, 286);
            t.agreed("SPENT", t.run(2000), 2);
            t.due("made, " + s, t.about(1), 2000);
            t.due("there are fewer than are told, " + s, t.about(0) < 286, true);
            t.due("the next number, " + s, t.about(8), 2000);
        }
    }

    static void term1_twoThousandMadeByLook(Trial t) {
        t.letters(2);
        t.words("ABBAbba");
        t.begin(1, 300);
        t.agreed("one row a STEP from the second on", t.run(2000), 0);
        t.due("made", t.about(1), 2000);
        t.due("STEPS", t.about(4), 2000);
        t.agreed("one more", t.step(), 2);
        t.due("made", t.about(1), 2000);
        t.due("STEPS", t.about(4), 2001);
        t.due("there are fewer than are told", t.about(0) < 300, true);
    }

    static void term1_twoThousandMadeBySmall(Trial t) {
        t.letters(4);
        t.words("bADCC", "cDAcbAaAbd", "AdcCDCD");
        t.subs("b");
        t.begin(4, 300);
        t.agreed("SPENT", t.run(2000), 2);
        t.due("made", t.about(1), 2000);
        t.due("rows", t.about(0), 46);
        t.due("it was PACKED ahead of that", t.about(8), 46);
    }

    static void term1_columns(Trial t) {
        t.letters(5);
        t.words("abcde", "ABCDE");
        for (int i = 0; i < 5; i++) {
            t.due("letter " + i, t.letter(0, i, false), 2 * i);
            t.due("it turned", t.letter(1, i, false), 2 * i + 1);
        }
        t.begin(0, 300);
        t.run(2);
        for (int i = 0; i < 5; i++) {
            t.due("there and back", t.cell(t.cell(0, 2 * i), 2 * i + 1), 0);
            t.due("back and there", t.cell(t.cell(0, 2 * i + 1), 2 * i), 0);
        }
    }

    // ---- II: texts

    static void term2_blanksAnywhereButWithinNumbers(Trial t) {
        t.letters(2);
        t.reads("  a b  ^  -  2  ( a )  ^ 12 [ a , b ]  ", "aBB" + "a".repeat(11) + "Bab");
        t.reads(" 1 ", "");
        t.reads(" ( 1 ) ", "");
        t.faulty("a^1 2", FORM, 4);
        t.faulty("a^ - 1  2", FORM, 8);
        t.faulty("a^1 2^3", FORM, 4);
        t.faulty("a\tb", FORM, 1);
        t.faulty("a\u00a0b", FORM, 1);
    }

    static void term2_oneIsTheEmptyWordAlone(Trial t) {
        t.letters(2);
        t.reads("1", "");
        t.reads("(1)a", "a");
        t.reads("(1)^99", "");
        t.reads("[1,a]", "");
        t.reads("[a,1]", "");
        t.faulty("11", FORM, 1);
        t.faulty("1 a", FORM, 2);
        t.faulty("a1", FORM, 1);
        t.faulty("1^2", FORM, 1);
        t.faulty("(1a)", FORM, 2);
        t.faulty("[1,1", FORM, 4);
    }

    static void term2_noWordWithoutAFactor(Trial t) {
        t.letters(2);
        t.faulty("", FORM, 0);
        t.faulty("  ", FORM, 2);
        t.faulty("()", FORM, 1);
        t.faulty("[,a]", FORM, 1);
        t.faulty("[a,]", FORM, 3);
        t.faulty("^2", FORM, 0);
        t.faulty("-1", FORM, 0);
        t.faulty("0", FORM, 0);
        t.faulty("2", FORM, 0);
    }

    static void term2_asManyLettersAsThereAre(Trial t) {
        String small = "abcdef";
        for (int n = 1; n <= 5; n++) {
            t.letters(n);
            String all = small.substring(0, n);
            t.reads(all, all);
            t.reads(all.toUpperCase(), all.toUpperCase());
            t.faulty(all + small.charAt(n), FORM, n);
            t.faulty("[a," + small.toUpperCase().charAt(n), FORM, 3);
        }
        t.faulty("`", FORM, 0);
        t.faulty("@", FORM, 0);
    }

    static void term2_powersOf0To99(Trial t) {
        t.letters(2);
        t.reads("a^0", "");
        t.reads("a^1", "a");
        t.reads("a^00", "");
        t.reads("b a^0b", "bb");
        t.reads("(aA)^99", "");
        t.reads("a^0040", "a".repeat(40));
        t.faulty("a^99", LONG, 0);
        t.faulty("a^100", NUMBER, 2);
        t.faulty("(aA)^100", NUMBER, 5);
    }

    static void term2_powersBelow0(Trial t) {
        t.letters(2);
        t.reads("(ab)^-2", "BABA");
        t.reads("(ab)^-1", "BA");
        t.reads("(ab)^-0", "");
        t.reads("A^-3", "aaa");
        t.reads("[a,b]^-1", "BAba");
        t.reads("(aA)^-99", "");
        t.reads("a^-40", "A".repeat(40));
        t.faulty("a^-41", LONG, 0);
        t.faulty("(aA)^-100", NUMBER, 6);
        t.faulty("a^--1", FORM, 3);
        t.faulty("a^+1", FORM, 2);
    }

    static void term2_onePowerOfAnAtom(Trial t) {
        t.faulty("a^2^2", FORM, 3);
        t.reads("(a^2)^2", "aaaa");
    }

    static void term2_commutators(Trial t) {
        t.letters(3);
        t.reads("[a,b]", "ABab");
        t.reads("[ab,c]", "BACabc");
        t.reads("[a,bc]", "ACBabc");
        t.reads("[a,a]", "");
        t.reads("[[a,b],c]", "BAbaCABabc");
        t.faulty("[a]", FORM, 2);
        t.faulty("[a,b,c]", FORM, 4);
        t.faulty("[a,b)", FORM, 4);
        t.faulty("(a,b)", FORM, 2);
        t.faulty("(a]", FORM, 2);
        t.faulty("a,b", FORM, 1);
    }

    static void term2_leastUntilThereAreNone(Trial t) {
        t.letters(2);
        t.reads("aA", "");
        t.reads("Aa", "");
        t.reads("abBA", "");
        t.reads("abBAbaAB", "");
        t.reads("aba", "aba");
        t.reads("abAB", "abAB");
        t.reads("a^20b^20B^20A^19", "a");
    }

    static void term2_formTheFirstByteOrTheEnd(Trial t) {
        t.letters(2);
        t.faulty("a?", FORM, 1);
        t.faulty("?", FORM, 0);
        t.faulty("a)", FORM, 1);
        t.faulty("a^", FORM, 2);
        t.faulty("a^-", FORM, 3);
        t.faulty("a^ - ", FORM, 5);
        t.faulty("(a", FORM, 2);
        t.faulty("(a  ", FORM, 4);
        t.faulty("(", FORM, 1);
        t.faulty("[", FORM, 1);
        t.faulty("[a", FORM, 2);
        t.faulty("[a,", FORM, 3);
        t.faulty("[a,b", FORM, 4);
        t.faulty("a^b", FORM, 2);
        t.faulty("a\u0000", FORM, 1);
        t.faulty("a\u00ff", FORM, 1);
    }

    static void term2_longAFactorWithItsPower(Trial t) {
        t.letters(2);
        t.reads("a^40", "a".repeat(40));
        t.faulty("a^41", LONG, 0);
        t.faulty("  a^41", LONG, 2);
        t.reads("(abab)^10", "ab".repeat(20));
        t.faulty("(abab)^11", LONG, 0);
        t.faulty("(abab)^-11", LONG, 0);
        t.reads("(a^39b)", "a".repeat(39) + "b");
        t.faulty("(a^39b)^2", LONG, 0);
        t.faulty("b(a^39b)^2", LONG, 1);
    }

    static void term2_longPowersOneByOne(Trial t) {
        t.letters(2);
        t.reads("(abA)^38", "a" + "b".repeat(38) + "A");
        t.faulty("(abA)^39", LONG, 0);
        t.reads("(a^19bA^19)^2", "a".repeat(19) + "bb" + "A".repeat(19));
        t.faulty("(a^19bA^19)^3", LONG, 0);
    }

    static void term2_longWhatStandsSoFar(Trial t) {
        t.letters(2);
        t.reads("a^20b^20", "a".repeat(20) + "b".repeat(20));
        t.faulty("a^20b^21", LONG, 4);
        t.faulty("a^20b^20 a", LONG, 9);
        t.faulty("a^40 a A", LONG, 5);
        t.faulty("a^30 b^20 B^20", LONG, 5);
        t.reads("a^40 A^40 b^40", "b".repeat(40));
        t.reads("a^40 A b", "a".repeat(39) + "b");
        t.faulty("b(a^30a^30A^30)", LONG, 6);
        t.faulty("[a^30a^30A^30,b]", LONG, 5);
        t.faulty("[b,a^30a^30A^30]", LONG, 7);
    }

    static void term2_longACommutatorAsAWhole(Trial t) {
        t.letters(2);
        t.reads("[a^19,b]", "A".repeat(19) + "B" + "a".repeat(19) + "b");
        t.faulty("[a^20,b]", LONG, 0);
        t.faulty("b [a^20,b]", LONG, 2);
        t.reads("[a^40,a^40]", "");
        t.reads("[a^40,A^40]", "");
        t.reads("[a^30b,a^30b]", "");
        t.reads("[a^20,b]^0", "");
        t.reads("[a^40,b^40]^0", "");
        t.faulty("[a^20,b]^1", LONG, 0);
        t.faulty("[a^20,b]^-1", LONG, 0);
    }

    static void term2_deepTheNinthBracketOpen(Trial t) {
        t.faulty("a(((((((( (a", DEEP, 10);
        t.faulty("(((((((((", DEEP, 8);
        t.faulty("(((((((([", DEEP, 8);
        t.faulty("((((((((", FORM, 8);
        t.faulty("((((((((?", FORM, 8);
        t.faulty("((((((((a(", DEEP, 9);
    }

    static void term2_numberAbove99(Trial t) {
        t.faulty("a^100", NUMBER, 2);
        t.faulty("a^ 100", NUMBER, 3);
        t.faulty("a ^ - 100", NUMBER, 6);
        t.faulty("a^00100", NUMBER, 2);
        t.faulty("a^999999999999999999999", NUMBER, 2);
        t.faulty("a^4294967297", NUMBER, 2);
        t.faulty("a^100?", NUMBER, 2);
    }

    static void term2_faultsInTheOrderInWhichTheyAreMet(Trial t) {
        t.letters(2);
        t.faulty("a^41?", LONG, 0);
        t.faulty("a^41 a^100", LONG, 0);
        t.faulty("a^100 a^41", NUMBER, 2);
        t.faulty("? a^41", FORM, 0);
        t.faulty("(a^41", LONG, 1);
        t.faulty("a^41(((((((((", LONG, 0);
        t.faulty("(((((((((a^41", DEEP, 8);
        t.faulty("a^100(((((((((", NUMBER, 2);
        t.faulty("a^30 a^30 ?", LONG, 5);
        t.faulty("(a^30a^30", LONG, 5);
    }

    static void term2_aFactorIsReckonedWhenItsPowerHasEnded(Trial t) {
        t.letters(2);
        t.faulty("[a^20,b]^100", NUMBER, 9);
        t.faulty("[a^20,b]^", FORM, 9);
        t.faulty("[a^20,b]^?", FORM, 9);
        t.faulty("[a^20,b]?", LONG, 0);
        t.faulty("a^40 b^100", NUMBER, 7);
        t.faulty("a^40 b^?", FORM, 7);
        t.reads("a^40 b^0", "a".repeat(40));
        t.faulty("a^40 b", LONG, 5);
        t.faulty("([a^20,b])^0", LONG, 1);
    }

    static void term2_aBracketsWordWhenItEnds(Trial t) {
        t.letters(2);
        t.faulty("[a^20,b", FORM, 7);
        t.faulty("[a^20,b?", FORM, 7);
        t.faulty("a^40(b", FORM, 6);
        t.faulty("a^40(b)", LONG, 4);
        t.faulty("a^40(bB", FORM, 7);
        t.reads("a^40(bB)", "a".repeat(40));
    }

    // ---- III: the table

    static void term3_rowsAreNumberedAsTheyAreMade(Trial t) {
        t.letters(2);
        t.begin(1, 10);
        t.run(5);
        t.cells("NEW by columns, and PUT both ways", new int[] {1, 2, 3, 4}, new int[] {E, 0, E, E}, new int[] {0, E, E, E},
            new int[] {E, E, E, 0}, new int[] {E, E, 0, E});
    }

    static void term3_quarrelTheLeastNumberStays(Trial t) {
        t.gap(0, 300);
        t.cells("with all their cells", new int[] {1, E, E, 3, E, E}, new int[] {E, 0, 3, E, 1, 1});
        t.due("the other one melts", t.cell(2, 0), Trial.MELTED);
        t.due("what led to it leads to the one that stays", t.cell(3, 3), 1);
        t.abouts("rows", 3, 4, 1, 4);
    }

    /** a^3 from row 0 alone, a^2 from all: rows 2 and 0 are one, so rows 1 and 0 are. */
    static void term3_quarrelAndSoOn(Trial t) {
        t.word("a^2");
        t.sub("a^3");
        for (int s = 0; s < 5; s++) {
            t.begin(s, 300);
            t.agreed("no cell is empty, but a^2 does not come round", t.step(), 0);
            t.abouts("behind the first STEP", 3, 3, 0, 3, 1, 0, 0);
            t.agreed("CLOSED", t.step(), 1);
            t.abouts("behind the second", 1, 3, 2, 3, 2, 0, 1);
            t.due("row 0 is left", t.cell(0, 0), 0);
            t.due("row 1 melted", t.cell(1, 0), Trial.MELTED);
            t.due("row 2 melted", t.cell(2, 1), Trial.MELTED);
        }
        t.letters(1);
        t.word("a^2");
        t.sub("a^5");
        for (int s = 0; s < 5; s++) {
            t.begin(s, 300);
            t.agreed("CLOSED", t.run(2), 1);
            t.abouts("of five rows one is left", 1, 5, 4, 5, 2, 0, 1);
        }
    }

    static void term3_lookMoreThanOneIsLeft(Trial t) {
        t.word("a^3");
        t.begin(1, 300);
        t.run(2);
        t.cells("two letters are left: nothing", new int[] {1, E}, new int[] {E, 0});
    }

    static void term3_lookOneIsLeft(Trial t) {
        t.word("a^3");
        t.begin(1, 300);
        t.agreed("PUT", t.run(3), 1);
        t.cells("PUT", new int[] {1, 2}, new int[] {2, 0}, new int[] {0, 1});
        t.letters(1);
        t.word("a");
        t.begin(0, 1);
        t.agreed("of one letter that is left, too", t.run(2), 1);
        t.abouts("no row is made", 1, 1);
        t.cells("PUT of a row to itself", new int[] {0, 0});
    }

    static void term3_lookNoneIsLeft(Trial t) {
        t.word("a");
        t.begin(1, 2);
        t.agreed("the ends are two", t.run(2), 1);
        t.abouts("QUARREL", 1, 2, 1, 2);
        t.cells("of a row with itself", new int[] {0, 0});
        t.letters(2);
        t.subs("ab", "ab", "BA");
        t.begin(0, 3);
        t.step();
        t.abouts("the ends are one: nothing", 2, 2, 0);
    }

    /**
     * From row 0 abb goes forward along a to row 1, and back along both b to row 2, but no further,
     * though A of row 2 leads to row 1; rows 1 and 2 are one, so rows 1 and 0 are.
     */
    static void term3_lookNeitherMeetsTheOther(Trial t) {
        t.letters(2);
        t.subs("a^2b^2", "a b^2");
        t.begin(0, 300);
        t.step();
        t.abouts("rows 1 and 2 melted", 2, 4, 2, 4);
        t.cells("row 0", new int[] {0, 0, 3, 3});
        t.due("row 3, b", t.cell(3, 2), 0);
        t.due("row 3, B", t.cell(3, 3), 0);
    }

    static void term3_fillNewAtTheForwardEnd(Trial t) {
        t.letters(2);
        t.subs("ab^2a");
        t.begin(0, 300);
        t.step();
        t.cells("four letters: three rows", new int[] {1, 3, E, E}, new int[] {E, 0, 2, E}, new int[] {E, E, 3, 1}, new int[] {0, E, E, 2});
        t.letters(2);
        t.subs("b", "ab^2a");
        t.begin(0, 300);
        t.step();
        t.due("b of row 0 leads nowhere that ab^2a goes", t.about(0), 4);
        t.letters(3);
        t.subs("ab", "acb");
        t.begin(0, 2);
        t.step();
        t.abouts("one letter is left: no NEW", 2, 2, 0, 2, 1, 6, 0);
        t.cells("but a PUT", new int[] {1, E, E, 1, E, E}, new int[] {E, 0, 0, E, 1, 1});
    }

    /** Bc can be gone along from row 0 only behind what ab tells, which comes behind it. */
    static void term3_closeUntilNothingChanges(Trial t) {
        t.letters(3);
        t.words("Bc", "ab");
        t.begin(1, 300);
        t.run(2);
        t.cells("a, then b, then c", new int[] {1, E, E, 1, E, 1}, new int[] {E, 0, 0, E, 0, E});
        t.letters(2);
        t.words("Ab", "a");
        t.begin(1, 300);
        t.agreed("behind a QUARREL, too", t.run(2), 1);
        t.cells("Ab is LOOKED at again", new int[] {0, 0, 0, 0});
    }

    static void term3_closeSubwordsFromRow0(Trial t) {
        t.letters(2);
        t.words("a^3", "b");
        t.subs("a^2");
        t.begin(1, 300);
        t.agreed("a^2 alone", t.step(), 0);
        t.abouts("two rows", 2);
        t.agreed("a^3 and a^2", t.step(), 1);
        t.abouts("one is left", 1, 3, 2);
    }

    static void term3_theFirstStepSubwordsAlone(Trial t) {
        t.word("a");
        for (int s = 0; s < 5; s++) {
            t.begin(s, 300);
            t.agreed("no SUBWORDS: it goes on", t.step(), 0);
            t.abouts("nothing is done, " + s, 1, 1, 0, 1, 1, 2, 0, 0, 1, 0);
        }
    }

    static void term3_theFirstStepSubwordsInOrder(Trial t) {
        t.letters(2);
        t.subs("a^3", "b^2");
        for (int s = 0; s < 5; s++) {
            t.begin(s, 300);
            t.agreed("the first STEP", t.step(), 0);
            t.cells("a^3 ahead of b^2, " + s, new int[] {1, 2, 3, 3}, new int[] {2, 0, E, E}, new int[] {0, 1, E, E}, new int[] {E, E, 0, 0});
            t.due("no row is DONE", t.about(9), 0);
        }
    }

    static void term3_fillARow(Trial t) {
        t.letters(2);
        t.words("a^3");
        t.begin(0, 300);
        t.run(2);
        t.cells("a^3, then b, then B", new int[] {1, 2, 3, 4}, new int[] {2, 0, E, E}, new int[] {0, 1, E, E}, new int[] {E, E, E, 0}, new int[] {E, E, 0, E});
        t.abouts("row 0 is DONE", 5, 5, 0, 5, 2, 10, 0, 0, 5, 1);
        t.step();
        t.due("then row 1 is", t.cell(1, 2), 5);
        t.due("then row 1 is", t.cell(1, 3), 6);
        t.due("DONE", t.about(9), 2);
    }

    /** bbA from row 1 makes row 1 and row 0 one: nothing more is made for row 1. */
    static void term3_fillAsLongAsTheRowIsLeft(Trial t) {
        t.letters(2);
        t.words("Ba", "bbA");
        t.begin(0, 300);
        t.agreed("row 0", t.run(2), 0);
        t.cells("row 0", new int[] {3, 1, 2, 1});
        t.agreed("row 1", t.step(), 1);
        t.abouts("row 1 melted, and is not DONE", 1, 5, 4, 5, 3, 0, 1, 0, 5, 1);
    }

    static void term3_fillTheLeastThatIsLeft(Trial t) {
        t.gap(0, 300);
        t.run(2);
        t.due("rows 0 and 1 are DONE", t.about(9), 2);
        t.due("row 3 is not", t.cell(3, 0), E);
        t.step();
        t.due("row 2 melted, row 3 is next", t.about(9), 3);
        for (int c = 0; c < 6; c++) t.due("row 3, column " + c + " is full", t.cell(3, c) >= 0, true);
        t.due("row 4 is not next", t.cell(4, 1), E);
    }

    static void term3_lookTheFirstEmptyCell(Trial t) {
        t.letters(2);
        t.subs("a");
        t.begin(1, 300);
        t.run(2);
        t.due("the first one", t.cell(0, 2), 1);
        t.step();
        t.due("then by columns", t.cell(0, 3), 2);
        t.step();
        t.due("then by rows", t.cell(1, 0), 3);
        t.due("no row is DONE", t.about(9), 0);
    }

    static void term3_lookWithNoEmptyCell(Trial t) {
        t.word("a^2");
        t.sub("a^3");
        t.begin(1, 3);
        t.step();
        t.agreed("CLOSE alone: no place is asked for", t.step(), 1);
        t.abouts("nothing is made", 1, 3);
    }

    static void term3_aheadClosesBehindFill(Trial t) {
        t.letters(2);
        t.words("ab");
        t.begin(0, 300);
        t.run(2);
        t.abouts("FILL: ab is not LOOKED at from row 2", 4, 4, 0);
        t.due("FILL: b of row 0", t.cell(0, 2), 3);
        t.begin(2, 300);
        t.agreed("AHEAD", t.run(2), 0);
        t.abouts("AHEAD: it is, and rows 2 and 3 are one", 3, 4, 1, 4, 2, 4, 0, 0, 4, 1);
        t.due("AHEAD: b of row 0", t.cell(0, 2), 2);
    }

    static void term3_mixedByTurns(Trial t) {
        t.letters(2);
        t.begin(3, 300);
        int[] rows = {1, 5, 6, 8, 9};
        int[] done = {0, 1, 1, 2, 2};
        for (int k = 0; k < 5; k++) {
            t.agreed("STEP " + (k + 1), t.step(), 0);
            t.due("rows behind STEP " + (k + 1), t.about(0), rows[k]);
            t.due("DONE behind STEP " + (k + 1), t.about(9), done[k]);
        }
    }

    /** a turns rows 0 and 1, b rows 1 and 2: the WORD b comes round from row 0 alone. */
    static void term3_mixedLookWithNoEmptyCell(Trial t) {
        t.letters(2);
        t.words("b");
        t.subs("a^2", "b", "ab^2A", "abaBA");
        t.begin(3, 3);
        t.agreed("first", t.step(), 0);
        t.abouts("no cell is empty", 3, 3, 0, 3, 1, 0, 0, 0, 3, 0);
        t.agreed("second, as FILL", t.step(), 0);
        t.abouts("row 0 is DONE, else nothing is done", 3, 3, 0, 3, 2, 0, 0, 0, 3, 1);
        t.agreed("third, as LOOK: CLOSE alone", t.step(), 1);
        t.abouts("row 0 is left", 1, 3, 2, 3, 3, 0, 1, 0, 3, 1);
    }

    static void term3_smallInTheFirstStep(Trial t) {
        t.word("a^2");
        t.sub("a^8");
        t.begin(0, 4);
        t.agreed("FILL is SPENT", t.step(), 2);
        t.abouts("FILL", 4, 4, 0, 4, 1, 2, 2, 0, 4, 0);
        t.begin(4, 4);
        t.agreed("SMALL is CLOSED", t.step(), 1);
        t.abouts("SMALL", 2, 4, 2, 4, 1, 0, 1, 1, 2, 0);
        t.begin(4, 8);
        t.agreed("with room there is no CLOSE", t.step(), 0);
        t.abouts("eight rows", 8, 8, 0, 8, 1, 0, 0, 0, 8, 0);
        t.begin(4, 7);
        t.agreed("of seven the eighth is one too many", t.step(), 1);
        t.abouts("seven rows", 2, 7, 5, 7, 1, 0, 1, 1, 2, 0);
    }

    /** a^2, the SUBWORD behind the one at hand, makes all rows one. */
    static void term3_smallClosesSubwordsToo(Trial t) {
        t.subs("a^5", "a^2");
        t.begin(4, 3);
        t.agreed("the first STEP", t.step(), 1);
        t.abouts("one row is left", 1, 3, 2, 3, 1, 0, 1, 1, 1, 0);
        t.begin(0, 3);
        t.agreed("FILL is SPENT", t.step(), 2);
    }

    static void term3_smallGoesOnWhereThereIsPlaceAgain(Trial t) {
        t.letters(2);
        t.words("a^2");
        t.subs("a^4b^2");
        t.begin(4, 4);
        t.agreed("the first STEP", t.step(), 0);
        t.abouts("rows 2 and 3 melted, then one was made", 3, 5, 2, 4, 1, 4, 0, 1, 3, 0);
        t.cells("its number is 2", new int[] {1, 1, 2, 2}, new int[] {0, 0, E, E}, new int[] {E, E, 0, 0});
    }

    static void term3_smallIsSpentIfANewIsDueStill(Trial t) {
        t.letters(2);
        t.words("a^2");
        t.subs("a^4b^2");
        t.begin(4, 2);
        t.agreed("the first STEP", t.step(), 2);
        t.abouts("CLOSE was done, but no PACK", 2, 2, 0, 2, 1, 4, 2, 0, 2, 0);
        t.cells("CLOSE was done", new int[] {1, 1, E, E}, new int[] {0, 0, E, E});
    }

    static void term3_smallNoPackIfNoRowMelted(Trial t) {
        t.begin(4, 3);
        t.agreed("SPENT", t.run(2000), 2);
        t.due("PACKS", t.about(7), 0);
    }

    static void term3_smallPackIfARowMeltedSinceBegin(Trial t) {
        t.gap(4, 4);
        t.agreed("SPENT", t.step(), 2);
        t.abouts("what melted in the first STEP counts", 4, 5, 1, 4, 2, 14, 2, 1, 4, 0);
        t.cells("numbers without a gap", new int[] {1, 3, E, 2, E, E});
        t.gap(0, 300);
        t.due("of this table one melted", t.about(2), 1);
        t.begin(4, 2);
        t.agreed("of the next one none did", t.step(), 2);
        t.due("PACKS", t.about(7), 0);
    }

    static void term3_smallNoPackIfNoneMeltedSinceTheLatest(Trial t) {
        t.gap(4, 4);
        t.agreed("PACK", t.pack(), 3);
        t.agreed("SPENT", t.step(), 2);
        t.abouts("no PACK more", 4, 5, 1, 4, 2, 14, 2, 1, 4, 0);
    }

    /** From row 4 bAB makes rows 3 and 0 one, so rows 2 and 0 are; row 2 is the one at hand. */
    static void term3_smallTheRowAtHandMeltsAtItsWord(Trial t) {
        t.letters(2);
        t.words("bAB");
        t.begin(4, 6);
        t.run(3);
        t.abouts("rows 0 and 1 are DONE", 6, 6, 0, 6, 3, 10, 0, 0, 6, 2);
        t.agreed("row 2", t.step(), 0);
        t.abouts("nothing is made for it", 4, 6, 2, 6, 4, 4, 0, 1, 4, 2);
        t.cells("PACKED", new int[] {0, 0, 1, 2}, new int[] {1, 1, 3, 0}, new int[] {E, E, 0, E}, new int[] {3, 3, E, 1});
    }

    /** As above, but Bab from row 2 has its rows: the NEW that has no place is one of its cells. */
    static void term3_smallTheRowAtHandMeltsAtItsCell(Trial t) {
        t.letters(2);
        t.words("Bab");
        t.begin(4, 7);
        t.run(3);
        t.abouts("rows 0 and 1 are DONE", 6, 6, 0, 6, 3, 10, 0, 0, 6, 2);
        t.agreed("row 2", t.step(), 0);
        t.abouts("nothing more is made for it", 4, 7, 3, 7, 4, 4, 0, 1, 4, 2);
        t.cells("PACKED", new int[] {0, 0, 2, 1}, new int[] {1, 1, 0, 3}, new int[] {E, E, E, 0}, new int[] {3, 3, 1, E});
    }

    /** From row 2 ab leads through row 0, and CLOSE fills b of row 0. */
    static void term3_smallACellIsAskedAnew(Trial t) {
        t.letters(2);
        t.words("ab");
        t.begin(0, 3);
        t.agreed("FILL is SPENT", t.run(2), 2);
        t.begin(4, 3);
        t.agreed("SMALL goes on", t.run(2), 0);
        t.abouts("row 0 is DONE", 3, 3, 0, 3, 2, 4, 0, 0, 3, 1);
        t.cells("row 0 is full", new int[] {1, 2, 2, 1});
    }

    static void term3_spentTheStepEndsThere(Trial t) {
        t.letters(2);
        t.begin(0, 3);
        t.agreed("SPENT", t.run(2), 2);
        t.abouts("two rows were made, row 0 is not DONE", 3, 3, 0, 3, 2, 8, 2, 0, 3, 0);
        t.cells("the two stay", new int[] {1, 2, E, E});
        t.letters(2);
        t.words("a^4", "ab");
        t.begin(2, 2);
        t.agreed("SPENT", t.run(2), 2);
        t.cells("AHEAD does not CLOSE then", new int[] {1, E, E, E}, new int[] {E, 0, E, E});
        t.letters(2);
        t.words("aa");
        t.subs("ab");
        t.begin(1, 2);
        t.agreed("SPENT", t.run(2), 2);
        t.cells("LOOK does not CLOSE then", new int[] {1, E, E, 1}, new int[] {E, 0, 0, E});
    }

    static void term3_spentInTheFirstStep(Trial t) {
        t.sub("a^3");
        for (int s = 0; s < 5; s++) {
            t.begin(s, 2);
            t.agreed("two rows", t.step(), 2);
            t.abouts("strategy " + s, 2, 2, 0, 2, 1, 2, 2, 0, 2, 0);
            t.begin(s, 3);
            t.agreed("three rows", t.step(), 1);
        }
    }

    static void term3_packInOrder(Trial t) {
        t.gap(0, 300);
        t.agreed("PACK", t.pack(), 3);
        t.cells("row 3 is row 2 now", new int[] {1, E, E, 2, E, E}, new int[] {E, 0, 2, E, 1, 1}, new int[] {E, E, 0, 1, E, E});
        t.due("the next number", t.about(8), 3);
        t.due("there is no row 3", t.cell(3, 0), Trial.NONE);
        t.step();
        t.due("the next row", t.cell(0, 1), 3);
    }

    /** Rows 0 and 1 are DONE ahead of PACK, then row 3, which is row 2 then, is due. */
    static void term3_packDoneGoesWithItsRow(Trial t) {
        t.gap(0, 300);
        t.run(2);
        t.due("DONE", t.about(9), 2);
        t.due("row 3 is not", t.cell(3, 0), E);
        t.pack();
        t.due("DONE", t.about(9), 2);
        t.step();
        t.due("DONE", t.about(9), 3);
        t.due("row 2 is", t.cell(2, 0) >= 0, true);
    }

    static void term3_closedIsAskedBehindEachStep(Trial t) {
        t.sub("a");
        for (int s = 0; s < 5; s++) {
            t.begin(s, 300);
            t.due("not ahead of a STEP", t.about(6), 0);
            t.agreed("behind the first one, too", t.step(), 1);
        }
        t.letters(2);
        t.subs("a");
        t.begin(0, 300);
        t.agreed("a cell is empty", t.step(), 0);
    }

    static void term3_closedAllWordsComeRound(Trial t) {
        t.letters(2);
        t.words("b", "(ab)^2");
        t.subs("a^3", "b");
        t.begin(0, 300);
        t.agreed("cells are empty", t.step(), 0);
        t.letters(1);
        t.words("a^4", "a^3");
        t.subs("a^4");
        t.begin(0, 300);
        t.agreed("no cell is empty, a^4 comes round, a^3 does not", t.step(), 0);
        t.abouts("no cell is empty", 4, 4, 0, 4, 1, 0, 0);
    }

    static void term3_renamed(Trial t) {
        t.word("a^7");
        t.begin(0, 300);
        t.run(2);
        t.cells("as made", new int[] {1, 6}, new int[] {2, 0}, new int[] {3, 1}, new int[] {4, 2}, new int[] {5, 3}, new int[] {6, 4}, new int[] {0, 5});
        t.agreed("rename()", t.rename());
        t.cells("as met", new int[] {1, 2}, new int[] {3, 0}, new int[] {0, 4}, new int[] {5, 1}, new int[] {2, 6}, new int[] {6, 3}, new int[] {4, 5});
        for (int k = 0; k < 7; k++) t.due("row(" + k + ")", t.row(k), k);
    }

    // ---- IV: low

    static void term4_atMostSoManyRows(Trial t) {
        for (int n = 1; n <= 6; n++) {
            t.agreed("low(" + n + ")", t.low(n), n);
            for (int i = 0; i < n; i++) t.due("rows of " + i, t.size(i), i + 1);
            t.due("TRIES: one, and two for each row more", t.lowly(0), 2 * n - 1);
            t.due("not ENDED", t.lowly(1), 0);
        }
    }

    static void term4_aTryForEachRowWhoseOtherCellIsEmpty(Trial t) {
        t.letters(2);
        t.agreed("low(1)", t.low(1), 1);
        t.due("one of a, one of b", t.lowly(0), 2);
        t.agreed("low(2)", t.low(2), 4);
        t.due("TRIES", t.lowly(0), TRIES_OF_TWO.length);
    }

    /** Two letters, two rows: each TRY as a cell of a row and the row that it is given. */
    private static final String[] TRIES_OF_TWO = {
        "0 a 0", "0 b 0, FOUND", "0 b 1", "0 B 1", "1 a 1, FOUND",
        "0 a 1", "0 A 1", "0 b 0", "1 b 1, FOUND", "0 b 1", "0 B 1, FOUND",
    };

    static void term4_aWordThatLeadsNotBack(Trial t) {
        t.word("a^3");
        t.agreed("low(6)", t.low(6), 2);
        t.due("size(0)", t.size(0), 1);
        t.due("size(1)", t.size(1), 3);
        t.due("TRIES", t.lowly(0), 6);
        t.agreed("low(3)", t.low(3), 2);
        t.due("no fourth row is tried", t.lowly(0), 5);
        t.agreed("low(2)", t.low(2), 1);
        t.due("no third row is tried", t.lowly(0), 3);
    }

    /** Of six elements there are three subgroups of two, which turn into one another: one is FOUND. */
    static void term4_unlessFromAnotherRowItIsLess(Trial t) {
        t.six();
        t.agreed("low(6)", t.low(6), 4);
        int[] sizes = {1, 3, 2, 6};
        for (int i = 0; i < 4; i++) t.due("size(" + i + ")", t.size(i), sizes[i]);
        t.due("the one in which a leaves row 0 alone", t.small(1, 0, 0), 0);
    }

    static void term4_endedAfter3000Tries(Trial t) {
        t.letters(5);
        t.low(6);
        t.due("TRIES", t.lowly(0), 3000);
        t.due("ENDED", t.lowly(1), 1);
        t.letters(2);
        t.words("Abaabbb");
        t.agreed("low(6)", t.low(6), 10);
        t.due("TRIES", t.lowly(0), 2999);
        t.due("not ENDED", t.lowly(1), 0);
        t.letters(3);
        t.words("cca", "cAb");
        t.agreed("low(5)", t.low(5), 5);
        t.due("TRIES", t.lowly(0), 3000);
        t.due("no 3,001st was due: not ENDED", t.lowly(1), 0);
        t.low(6);
        t.due("TRIES", t.lowly(0), 3000);
        t.due("ENDED", t.lowly(1), 1);
    }

    static void term4_theFirst40AreKept(Trial t) {
        t.letters(2);
        t.agreed("fewer", t.low(4), 37);
        t.due("all are kept", t.size(36), 4);
        t.due("no more", t.size(37), Trial.NONE);
        int found = t.low(5);
        t.due("more than 40 are FOUND", found > 40, true);
        t.due("the fortieth", t.size(39) > 0, true);
        t.due("no more", t.size(40), Trial.NONE);
        t.due("no more", t.size(found - 1), Trial.NONE);
    }

    public static void main(String[] args) {
        Trial.runAll(TermsBoundaryTest.class, "term1", "term2", "term3", "term4");
    }
}
