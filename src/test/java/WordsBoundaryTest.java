/** Each boundary case that promises 1 to 9 name, by the promise. */
public final class WordsBoundaryTest {
    private static final String[] STORIES = {"open", "closed", "spent", "bare"};

    private static void story(Trial t, String name) {
        switch (name) {
            case "open": t.open(); break;
            case "closed": t.closed(); break;
            case "spent": t.spent(); break;
            default: t.bare(); break;
        }
    }

    // ---- 1: a new object

    static void promise01_oneLetter(Trial t) {
        t.agreed("a", t.ask("a"), 1);
        t.agreed("A", t.ask("A"), 1);
        t.faulty("b", 1, 0);
        t.faulty("B", 1, 0);
    }

    static void promise01_noWords(Trial t) {
        t.due("letter", t.letter(0, 0, false), Trial.NONE);
        t.refused("tell", t.tell(0, 0), 4);
        t.refused("drop", t.drop(false), 4);
        t.due("letter of a SUBWORD", t.letter(0, 0, true), Trial.NONE);
        t.refused("tell a SUBWORD", t.tell(1, 0), 4);
        t.refused("drop a SUBWORD", t.drop(true), 4);
    }

    static void promise01_noTable(Trial t) {
        t.due("about(0)", t.about(0), Trial.NONE);
        t.due("cell(0, 0)", t.cell(0, 0), Trial.NONE);
        t.due("row(0)", t.row(0), Trial.NONE);
        t.refused("step()", t.step(), 5);
        t.refused("keep()", t.keep(), 5);
    }

    static void promise01_nothingElse(Trial t) {
        t.due("trouble()", t.trouble(), 0);
        t.due("where()", t.where(), Trial.NONE);
        t.due("fault()", t.fault(), 0);
        t.throwsNone("OUT is empty", 0);
        t.due("no low() yet", t.lowly(0), Trial.NONE);
        t.due("no rows of THE SHEET", t.check(), Trial.NONE);
        t.refused("none is KEPT", t.back(), 7);
        t.refused("the TAPE is empty", t.word(1), 1);
    }

    // ---- 2: feed

    static void promise02_highestByteFirst(Trial t) {
        t.letters(5);
        t.due("feed", t.feed(0x61626364, 0x65616263, 0x64656162, 0x63646561, 0x62636465), 20);
        t.agreed("word(20)", t.word(20), 20);
        for (int k = 0; k < 20; k++) t.due("letter(0, " + k + ")", t.letter(0, k, false), 2 * (k % 5));
    }

    static void promise02_bytesOfNumbersBelow0(Trial t) {
        t.due("feed", t.feed(0x61FF0080, -1, Trial.LEAST_INT, 0, 0), 20);
        t.faulty("word(2)", t.word(2), 1, 1);
        t.feed(-1, -1, -1, -1, -1);
        t.faulty("word(1)", t.word(1), 1, 0);
    }

    static void promise02_comesBehindTheTape(Trial t) {
        t.letters(2);
        t.tape("a");
        t.tape("b");
        t.agreed("word(21)", t.word(21), 2);
        t.due("the first one", t.letter(0, 0, false), 0);
        t.due("the second one", t.letter(0, 1, false), 2);
    }

    static void promise02_upTo400(Trial t) {
        for (int k = 1; k <= 20; k++) t.due("feed " + k, t.feedBlanks(), 20 * k);
    }

    static void promise02_noneComesBeyond400(Trial t) {
        for (int k = 1; k <= 19; k++) t.feedBlanks();
        t.due("up to 400", t.feed(0x20202020, 0x20202020, 0x20202020, 0x20202020, 0x20202061), 400);
        t.due("beyond", t.feed(0x3F3F3F3F, 0x3F3F3F3F, 0x3F3F3F3F, 0x3F3F3F3F, 0x3F3F3F3F), Trial.NONE);
        t.due("beyond, again", t.feedBlanks(), Trial.NONE);
        t.refused("401 bytes", t.word(401), 1);
        t.agreed("the 400 as they were", t.word(400), 1);
        t.due("it is empty then", t.feedBlanks(), 20);
    }

    static void promise02_leavesTheReason(Trial t) {
        t.mark();
        t.due("feed", t.feedBlanks(), 20);
        t.marked("feed");
        for (int k = 2; k <= 20; k++) t.feedBlanks();
        t.due("beyond", t.feedBlanks(), Trial.NONE);
        t.marked("feed beyond 400");
    }

    // ---- 3: letters

    static void promise03_oneToFive(Trial t) {
        String small = "abcdef";
        String great = "ABCDEF";
        for (int n = 1; n <= 5; n++) {
            t.agreed("letters(" + n + ")", t.letters(n));
            t.agreed("the last one", t.ask(small.substring(n - 1, n)), 1);
            t.agreed("the last one turned", t.ask(great.substring(n - 1, n)), 1);
            t.faulty(small.substring(n, n + 1), 1, 0);
            t.faulty(great.substring(n, n + 1), 1, 0);
        }
    }

    static void promise03_tooFewOrTooMany(Trial t) {
        for (int n : new int[] {0, 6, -1, 7, Trial.LEAST_INT, Trial.MOST_INT}) t.refused("letters(" + n + ")", t.letters(n), 1);
    }

    static void promise03_refusedLeavesAll(Trial t) {
        for (int n : new int[] {0, 6, -1})
            for (String name : STORIES) {
                t.leavesAll(name + ", letters(" + n + ")", x -> { story(x, name); x.tape("ab"); },
                    x -> x.refused("letters(" + n + ")", x.letters(n), 1));
            }
    }

    static void promise03_allIsGone(Trial t) {
        for (int n : new int[] {2, 5}) {
            t.closed();
            t.agreed("letters(" + n + ")", t.letters(n));
            t.due("no WORDS", t.letter(0, 0, false), Trial.NONE);
            t.due("no SUBWORDS", t.letter(0, 0, true), Trial.NONE);
            t.due("no table", t.about(0), Trial.NONE);
            t.refused("no table", t.step(), 5);
            t.agreed("THE WORD is the empty one", t.tell(2, 0), 0);
            t.spells("THE WORD", "");
        }
    }

    static void promise03_theTapeOutAndTheSheetStay(Trial t) {
        t.letters(2);
        t.ask("ba");
        t.tell(2, 0);
        t.told(new int[] {0, 0, 0, 0});
        t.low(1);
        t.tape("b");
        t.agreed("letters(2)", t.letters(2));
        t.spells("letters(2)", "ba");
        t.due("THE SHEET", t.check(), Trial.RIGHT);
        t.due("what low() found", t.size(0), 1);
        t.agreed("the TAPE", t.word(20), 1);
    }

    static void promise03_roomForAllWordsAgain(Trial t) {
        for (int n = 0; n < 2; n++) {
            t.letters(1);
            for (int k = 0; k < 12; k++) t.agreed("word " + k, t.word("a"), 1);
            t.refused("a thirteenth", t.word("a"), 3);
            for (int k = 0; k < 6; k++) t.agreed("sub " + k, t.sub("a"), 1);
            t.refused("a seventh", t.sub("a"), 3);
        }
    }

    // ---- 4: word, and 5: sub, which is likewise

    private static int take(Trial t, boolean sub, String text) { return sub ? t.sub(text) : t.word(text); }
    private static int take(Trial t, boolean sub, int n) { return sub ? t.sub(n) : t.word(n); }

    private static void howManyLetters(Trial t, boolean sub) {
        t.letters(2);
        t.agreed("one", take(t, sub, "a"), 1);
        t.agreed("brought to its least", take(t, sub, "abBAab"), 2);
        t.agreed("forty", take(t, sub, "(ab)^20"), 40);
        t.faulty("forty-one", take(t, sub, "(ab)^20a"), 2, 7);
        t.due("the last of forty", t.letter(2, 39, sub), 2);
        t.due("no faulty one is kept", t.letter(3, 0, sub), Trial.NONE);
    }

    private static void numbersOfBytes(Trial t, boolean sub) {
        t.tape("a");
        for (int n : new int[] {-1, 21, Trial.LEAST_INT, Trial.MOST_INT}) {
            t.refused("of 20 bytes " + n, take(t, sub, n), 1);
            t.due("fault()", t.fault(), 0);
        }
        t.agreed("all 20", take(t, sub, 20), 1);
        t.refused("1 of none", take(t, sub, 1), 1);
        t.refused("-1 of none", take(t, sub, -1), 1);
        t.faulty("none of none", take(t, sub, 0), 1, 0);
        t.tape("a");
        t.faulty("none of 20", take(t, sub, 0), 1, 0);
        t.due("the TAPE is empty then, too", t.feedBlanks(), 20);
    }

    private static void tapeStays(Trial t, boolean sub) {
        for (int n : new int[] {-1, 41})
            for (String name : STORIES) {
                t.leavesAll(name + ", " + n + " bytes of 40", x -> { story(x, name); x.tape("ab"); x.tape("ba"); },
                    x -> x.refused(n + " bytes of 40", take(x, sub, n), 1));
            }
    }

    private static void tapeIsEmptyThen(Trial t, boolean sub) {
        t.tape("a");
        t.tape("a");
        t.agreed("1 of 40", take(t, sub, 1), 1);
        t.due("the rest is gone, too", t.feedBlanks(), 20);
        t.faulty("a FAULT", take(t, sub, 20), 1, 20);
        t.due("behind a FAULT", t.feedBlanks(), 20);
        for (int k = 0; k < 12; k++) take(t, sub, "a");
        t.tape("a");
        t.refused("no room", take(t, sub, 1), 3);
        t.due("behind a refusal by 3", t.feedBlanks(), 20);
    }

    private static void faultLeavesAll(Trial t, boolean sub) {
        String[] texts = {"b?", "b^41", "(((((((((b", "b^100"};
        int[] places = {1, 0, 8, 2};
        for (int k = 0; k < 4; k++) {
            int fault = k + 1;
            for (String name : STORIES) {
                t.leavesAll(name + ", " + texts[k], x -> story(x, name),
                    x -> x.faulty(texts[fault - 1], take(x, sub, texts[fault - 1]), fault, places[fault - 1]));
            }
        }
    }

    private static void fullStory(Trial t, boolean sub) {
        t.letters(2);
        int room = sub ? 6 : 12;
        for (int k = 0; k < room; k++) t.agreed("number " + (k + 1), take(t, sub, k % 2 == 0 ? "ab" : "ba"), 2);
        t.begin(0, 2);
        t.run(2);
        t.keep();
    }

    private static void noMoreRoom(Trial t, boolean sub) {
        t.leavesAll("one too many", x -> fullStory(x, sub), x -> {
            x.refused("one too many", take(x, sub, "a"), 3);
            x.due("fault()", x.fault(), 0);
        });
        t.leavesAll("an empty one too many", x -> fullStory(x, sub), x -> x.refused("an empty one", take(x, sub, "1"), 3));
        t.leavesAll("a faulty one too many", x -> fullStory(x, sub), x -> x.faulty("a faulty one", take(x, sub, "a)"), 1, 1));
        t.leavesAll("a number too many", x -> fullStory(x, sub), x -> x.refused("1 of no bytes", take(x, sub, 1), 1));
        fullStory(t, sub);
        t.agreed("of the others there is room", take(t, !sub, "a"), 1);
        t.drop(sub);
        t.agreed("one in place of the latest", take(t, sub, "a"), 1);
        t.refused("and no more", take(t, sub, "a"), 3);
    }

    private static void emptyIsNotKept(Trial t, boolean sub) {
        for (String text : new String[] {"1", "aA", "(ab)^0", "[a,a]"})
            for (String name : STORIES) {
                t.leavesAll(name + ", " + text, x -> story(x, name), x -> {
                    x.agreed(text, take(x, sub, text), 0);
                    x.due("fault()", x.fault(), 0);
                });
            }
    }

    private static void tableIsGone(Trial t, boolean sub) {
        for (String name : STORIES) {
            Trial x = new Trial();
            story(x, name);
            x.agreed(name, take(x, sub, "b"), 1);
            x.due(name + ": about(0)", x.about(0), Trial.NONE);
            x.refused(name + ": step()", x.step(), 5);
        }
    }

    static void promise04_howManyLetters(Trial t) { howManyLetters(t, false); }
    static void promise04_below0OrMoreThanThereAre(Trial t) { numbersOfBytes(t, false); }
    static void promise04_refusedBy1TheTapeStays(Trial t) { tapeStays(t, false); }
    static void promise04_theTapeIsEmptyThen(Trial t) { tapeIsEmptyThen(t, false); }
    static void promise04_aFaultLeavesAllButTheTape(Trial t) { faultLeavesAll(t, false); }
    static void promise04_twelveAndNoMore(Trial t) { noMoreRoom(t, false); }
    static void promise04_anEmptyOneIsNotKept(Trial t) { emptyIsNotKept(t, false); }
    static void promise04_theTableIsGone(Trial t) { tableIsGone(t, false); }

    static void promise05_howManyLetters(Trial t) { howManyLetters(t, true); }
    static void promise05_below0OrMoreThanThereAre(Trial t) { numbersOfBytes(t, true); }
    static void promise05_refusedBy1TheTapeStays(Trial t) { tapeStays(t, true); }
    static void promise05_theTapeIsEmptyThen(Trial t) { tapeIsEmptyThen(t, true); }
    static void promise05_aFaultLeavesAllButTheTape(Trial t) { faultLeavesAll(t, true); }
    static void promise05_sixAndNoMore(Trial t) { noMoreRoom(t, true); }
    static void promise05_anEmptyOneIsNotKept(Trial t) { emptyIsNotKept(t, true); }
    static void promise05_theTableIsGone(Trial t) { tableIsGone(t, true); }

    // ---- 6: drop

    static void promise06_theLatest(Trial t) {
        t.letters(2);
        t.words("a", "bb");
        t.subs("A", "B");
        t.agreed("drop(false)", t.drop(false));
        t.due("the latest is gone", t.letter(1, 0, false), Trial.NONE);
        t.due("the other one is left", t.letter(0, 0, false), 0);
        t.due("SUBWORDS are left", t.letter(1, 0, true), 3);
        t.agreed("drop(true)", t.drop(true));
        t.due("the latest is gone", t.letter(1, 0, true), Trial.NONE);
        t.due("the other one is left", t.letter(0, 0, true), 1);
        t.agreed("the last WORD", t.drop(false));
        t.due("no WORD", t.letter(0, 0, false), Trial.NONE);
        t.refused("none", t.drop(false), 4);
        t.agreed("the last SUBWORD", t.drop(true));
        t.refused("none", t.drop(true), 4);
    }

    static void promise06_theTableIsGone(Trial t) {
        for (boolean sub : new boolean[] {false, true})
            for (String name : new String[] {"open", "closed", "spent"}) {
                Trial x = new Trial();
                story(x, name);
                x.agreed(name, x.drop(sub));
                x.due(name + ": about(0)", x.about(0), Trial.NONE);
                x.refused(name + ": step()", x.step(), 5);
            }
    }

    static void promise06_noneLeavesAll(Trial t) {
        t.leavesAll("no WORD", x -> { x.letters(2); x.subs("ab", "ba"); x.begin(0, 3); x.run(2); x.keep(); x.tape("a"); },
            x -> x.refused("no WORD", x.drop(false), 4));
        t.leavesAll("no SUBWORD", x -> { x.letters(2); x.words("ab", "ba"); x.begin(0, 3); x.run(2); x.keep(); x.tape("a"); },
            x -> x.refused("no SUBWORD", x.drop(true), 4));
    }

    // ---- 7: letter

    static void promise07_firstAndLast(Trial t) {
        t.letters(5);
        t.words("aE", "(bD)^20");
        t.subs("Ae", "c", "(Bd)^20");
        int[][] words = {{0, 9}, {2, 7}};
        int[][] subs = {{1, 8}, {4, 4}, {3, 6}};
        int[] wordEnds = {1, 39};
        int[] subEnds = {1, 0, 39};
        for (int i = 0; i < 2; i++) {
            t.due("WORD " + i + ", first", t.letter(i, 0, false), words[i][0]);
            t.due("WORD " + i + ", last", t.letter(i, wordEnds[i], false), words[i][1]);
            t.due("WORD " + i + ", beyond", t.letter(i, wordEnds[i] + 1, false), Trial.NONE);
            t.due("WORD " + i + ", below", t.letter(i, -1, false), Trial.NONE);
        }
        for (int i = 0; i < 3; i++) {
            t.due("SUBWORD " + i + ", first", t.letter(i, 0, true), subs[i][0]);
            t.due("SUBWORD " + i + ", last", t.letter(i, subEnds[i], true), subs[i][1]);
            t.due("SUBWORD " + i + ", beyond", t.letter(i, subEnds[i] + 1, true), Trial.NONE);
            t.due("SUBWORD " + i + ", below", t.letter(i, -1, true), Trial.NONE);
        }
        t.due("no third WORD", t.letter(2, 0, false), Trial.NONE);
        t.due("no fourth SUBWORD", t.letter(3, 0, true), Trial.NONE);
        for (int far : new int[] {-1, 12, Trial.LEAST_INT, Trial.MOST_INT}) {
            t.due("WORD " + far, t.letter(far, 0, false), Trial.NONE);
            t.due("SUBWORD " + far, t.letter(far, 0, true), Trial.NONE);
            t.due("letter " + far, t.letter(0, far, false), Trial.NONE);
        }
    }

    static void promise07_theTwelfthAndTheSixth(Trial t) {
        t.letters(2);
        for (int k = 0; k < 11; k++) t.word("a");
        t.word("B");
        for (int k = 0; k < 5; k++) t.sub("a");
        t.sub("b");
        t.due("WORD 11", t.letter(11, 0, false), 3);
        t.due("WORD 12", t.letter(12, 0, false), Trial.NONE);
        t.due("SUBWORD 5", t.letter(5, 0, true), 2);
        t.due("SUBWORD 6", t.letter(6, 0, true), Trial.NONE);
    }

    static void promise07_leavesTheReason(Trial t) {
        t.word("a");
        t.mark();
        t.letter(0, 0, false);
        t.letter(1, 0, false);
        t.letter(0, 0, true);
        t.marked("letter");
    }

    // ---- 8: ask

    static void promise08_howManyLetters(Trial t) {
        t.letters(2);
        t.agreed("forty", t.ask("(ab)^20"), 40);
        t.faulty("(ab)^20a", 2, 7);
        t.agreed("forty still", t.tell(2, 0), 40);
        t.agreed("an empty one", t.ask("1"), 0);
        t.agreed("is THE WORD", t.tell(2, 0), 0);
        t.agreed("one that is brought to nothing", t.ask("abBA"), 0);
    }

    static void promise08_below0OrMoreThanThereAre(Trial t) {
        t.tape("a");
        for (int n : new int[] {-1, 21, Trial.LEAST_INT, Trial.MOST_INT}) {
            t.refused("ask(" + n + ")", t.ask(n), 1);
            t.due("fault()", t.fault(), 0);
        }
        t.agreed("all 20", t.ask(20), 1);
        t.refused("1 of none", t.ask(1), 1);
        t.faulty("none of none", t.ask(0), 1, 0);
    }

    static void promise08_refusedBy1LeavesAll(Trial t) {
        for (int n : new int[] {-1, 41})
            for (String name : STORIES) {
                t.leavesAll(name + ", ask(" + n + ")", x -> { story(x, name); x.tape("ba"); x.tape("bb"); },
                    x -> x.refused("ask(" + n + ")", x.ask(n), 1));
            }
    }

    static void promise08_aFaultLeavesTheWord(Trial t) {
        for (String name : STORIES)
            t.leavesAll(name + ", a FAULT", x -> story(x, name), x -> x.faulty("b^2 b^100", 4, 6));
    }

    static void promise08_theTapeIsEmptyThen(Trial t) {
        t.tape("a");
        t.tape("a");
        t.agreed("1 of 40", t.ask(1), 1);
        t.due("the rest is gone, too", t.feedBlanks(), 20);
        t.faulty("20 blanks", t.ask(20), 1, 20);
        t.due("behind a FAULT", t.feedBlanks(), 20);
    }

    static void promise08_atFirstTheEmptyOne(Trial t) {
        t.agreed("tell", t.tell(2, 0), 0);
        t.due("is()", t.is(), 1);
        t.begin(0, 1);
        t.due("lead(0)", t.lead(0), 0);
    }

    static void promise08_wordsAndTheTableStay(Trial t) {
        t.closed();
        t.agreed("ask", t.ask("b"), 1);
        t.due("index()", t.index(), 3);
        t.agreed("what was KEPT", t.back());
    }

    static void promise08_roomForItAlways(Trial t) {
        for (int k = 0; k < 12; k++) t.word("a");
        for (int k = 0; k < 6; k++) t.sub("a");
        t.agreed("ask", t.ask("aa"), 2);
    }

    // ---- 9: fault

    static void promise09_noneAheadOfAny(Trial t) {
        t.due("fault()", t.fault(), 0);
        t.refused("refused by 1", t.word(1), 1);
        t.due("still", t.fault(), 0);
    }

    static void promise09_ofTheLatest(Trial t) {
        String[] texts = {"a", "?", "a^41", "(((((((((", "a^100", "1"};
        int[] faults = {0, 1, 2, 3, 4, 0};
        for (int k = 0; k < 6; k++) {
            t.word(texts[k]);
            t.due("word " + texts[k], t.fault(), faults[k]);
            t.sub(texts[5 - k]);
            t.due("sub " + texts[5 - k], t.fault(), faults[5 - k]);
            t.ask(texts[k]);
            t.due("ask " + texts[k], t.fault(), faults[k]);
        }
    }

    static void promise09_refusedBy1LeavesIt(Trial t) {
        t.word("a^100");
        t.refused("word(-1)", t.word(-1), 1);
        t.due("behind word(-1)", t.fault(), 4);
        t.refused("sub(1)", t.sub(1), 1);
        t.due("behind sub(1)", t.fault(), 4);
        t.refused("ask(-1)", t.ask(-1), 1);
        t.due("behind ask(-1)", t.fault(), 4);
    }

    static void promise09_refusedBy3IsNoFault(Trial t) {
        for (int k = 0; k < 12; k++) t.word("a");
        for (int k = 0; k < 6; k++) t.sub("a");
        t.ask("?");
        t.due("ask ?", t.fault(), 1);
        t.refused("word", t.word("a"), 3);
        t.due("word refused by 3", t.fault(), 0);
        t.ask("?");
        t.refused("sub", t.sub("1"), 3);
        t.due("sub refused by 3", t.fault(), 0);
    }

    static void promise09_otherCallsLeaveIt(Trial t) {
        t.ask("a^50");
        t.letters(2);
        t.begin(0, 2);
        t.run(1);
        t.keep();
        t.drop(false);
        t.low(1);
        t.due("fault()", t.fault(), 2);
    }

    static void promise09_leavesTheReason(Trial t) {
        t.mark();
        t.fault();
        t.marked("fault");
    }

    public static void main(String[] args) {
        Trial.runAll(WordsBoundaryTest.class, "promise01", "promise02", "promise03", "promise04", "promise05", "promise06",
            "promise07", "promise08", "promise09");
    }
}
