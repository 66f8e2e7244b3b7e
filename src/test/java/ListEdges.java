/**
 * The boundary cases of "Terms" 3 and of promises 15 to 22, a test for each sentence that names one, in
 * the document's order. What a refused call leaves as it was is told whole by RefusalEdges.
 */
public final class ListEdges {
    private static final int BAD = -1;
    private static final int STATE = -2;
    private static final int FULL = -3;
    private static final int NONE = -9;
    private static final int[] NO_KINDS = {-1, 12, Integer.MIN_VALUE, Integer.MAX_VALUE};
    private static final int[] NO_LOGICS = {-1, 2, Integer.MIN_VALUE, Integer.MAX_VALUE};
    private static final int[] NO_WORDS = {-1, 4, Integer.MIN_VALUE, Integer.MAX_VALUE};
    private static final String EIGHT = "((h\\a)/(b/(c/(d/(e/(f/g))))))";
    private static final String NINE = "((h\\a)/(b/(c/(d/((e/h)/(f/g))))))";

    public static void main(String[] args) {
        wordsZeroToThree();
        threeKindsAtMost();
        kindsZeroToElevenInASet();
        noneAtFirst();
        wordTellsWhatItMight();
        kindsAsTheyAreWhenAsked();
        sixWordsAtMost();
        emptyAtFirst();
        oneKindForEachWord();
        aWordThatMayBeNothing();
        allChoicesOfSixWords();
        meantIsTheSum();
        aChoiceWithAStarIsNone();
        moreThanSixteenAtomsIsNone();
        aGoalWithAStarIsNoneAtAll();
        firstByTheFirstWord();
        rowsOfLengthOneToFour();
        nearWithoutAChange();
        nearWithEveryWordChanged();
        nearOfSeveralTheFirst();
        nearNone();
        fourWordsAtMost();
        hushTellsHowMany();
        byFullOrByEmpty();
        kindsAndLogicsThatAreNone();
        readsWhatZeroOrOne();
        firstOfPlacesOfTheSentence();
        nearOfPlacesOfTheSentence();
        badAheadOfFullAndState();
        countZeroToThree();
        Check.end("ListEdges");
    }

    private static void due(String call, long got, long want) {
        Check.due(call, got, want);
    }

    private static SlashKinds withKinds(String... kinds) {
        SlashKinds x = new SlashKinds();
        for (int i = 0; i < kinds.length; i++) {
            Check.kind(x, i, kinds[i]);
        }
        return x;
    }

    private static SlashKinds said(SlashKinds x, int... words) {
        x.hush();
        for (int w : words) {
            x.say(w);
        }
        return x;
    }

    private static void read(SlashKinds x, int i, int logic, int ways, int meant) {
        due("reads(" + i + ", " + logic + ", 0)", x.reads(i, logic, 0), ways);
        due("reads(" + i + ", " + logic + ", 1)", x.reads(i, logic, 1), meant);
    }

    private static void first(SlashKinds x, int i, int logic, int... want) {
        for (int k = 0; k < want.length; k++) {
            due("first(" + i + ", " + logic + ", " + k + ")", x.first(i, logic, k), want[k]);
        }
    }

    private static void near(SlashKinds x, int i, int logic, int changes, int... words) {
        due("near(" + i + ", " + logic + ", -1)", x.near(i, logic, -1), changes);
        for (int k = 0; k < words.length; k++) {
            due("near(" + i + ", " + logic + ", " + k + ")", x.near(i, logic, k), words[k]);
        }
    }

    // "A LIST has WORDS 0 .. 3"; word, say: "BAD".
    private static void wordsZeroToThree() {
        SlashKinds x = new SlashKinds();
        for (int w : new int[] {0, 3}) {
            due("word(" + w + ", 1)", x.word(w, 1), 0);
            due("word(" + w + ", 2)", x.word(w, 2), 1);
            due("say(" + w + ")", x.say(w), w == 0 ? 1 : 2);
        }
        for (int w : NO_WORDS) {
            due("word(" + w + ", 1)", x.word(w, 1), BAD);
            due("word(" + w + ", 0)", x.word(w, 0), BAD);
            due("say(" + w + ")", x.say(w), BAD);
        }
        due("two WORDS", x.count(1), 2);
        for (int w = 0; w < 4; w++) {
            due("WORD " + w + " stays", x.word(w, 0), w == 0 || w == 3 ? 2 : 0);
        }
    }

    // "three at most"; word: "BAD: more than three, too".
    private static void threeKindsAtMost() {
        for (int from = 0; from < 4096; from += 256) {
            SlashKinds x = new SlashKinds();
            int had = 0;
            for (int set = from; set < from + 256; set++) {
                boolean may = Integer.bitCount(set) <= 3;
                due("word(1, " + set + ")", x.word(1, set), may ? had : BAD);
                had = may ? set : had;
            }
            due("the last that was taken", x.word(1, 0), had);
        }
    }

    // "KINDS 0 .. 11 that it may be (a set of their numbers".
    private static void kindsZeroToElevenInASet() {
        SlashKinds x = new SlashKinds();
        due("KIND 0", x.word(2, 1), 0);
        due("it is read", said(x, 2).reads(0, 0, 0), 1);
        due("KIND 11", x.word(2, 1 << 11), 1);
        due("it is read too", x.reads(0, 0, 0), 1);
        due("which one", x.first(0, 0, 0), 11);
        for (int bit = 12; bit < 32; bit++) {
            due("KIND " + bit, x.word(2, 1 << bit), BAD);
            due("KINDS 0 and " + bit, x.word(2, 1 | 1 << bit), BAD);
        }
        due("all numbers", x.word(2, -1), BAD);
        due("the greatest number", x.word(2, Integer.MAX_VALUE), BAD);
        due("KIND 11 stays", x.word(2, 1 << 11 | 1 << 10 | 1 << 9), 1 << 11);
        due("the last three", x.word(2, 0), 0xE00);
    }

    // "none at first".
    private static void noneAtFirst() {
        SlashKinds x = new SlashKinds();
        for (int w = 0; w < 4; w++) {
            due("one WORD that may be nothing", said(x, w).reads(0, 1, 0), 0);
            due("word(" + w + ")", x.word(w, 1), 0);
            due("one WORD that may be a", x.reads(0, 1, 0), 1);
        }
    }

    // word: "what it might".
    private static void wordTellsWhatItMight() {
        SlashKinds x = new SlashKinds();
        due("first", x.word(0, 7), 0);
        due("the same again", x.word(0, 7), 7);
        due("to nothing", x.word(0, 0), 7);
        due("from nothing", x.word(0, 1 << 11), 0);
        due("from the last", x.word(0, 1), 1 << 11);
        due("the others are as they were", x.word(1, 1), 0);
    }

    // "KINDS as they are when it is asked".
    private static void kindsAsTheyAreWhenAsked() {
        SlashKinds x = withKinds("a", "b", "c");
        x.word(0, 1 << 1);
        said(x, 0);
        read(x, 0, 0, 0, 0);
        read(x, 1, 0, 1, 1);
        Check.kind(x, 1, "a");
        read(x, 0, 0, 1, 1);
        due("rows", x.rows(0, 0, 1), 1);
        near(x, 0, 0, 0, 0);
        Check.kind(x, 1, "c");
        read(x, 0, 0, 0, 0);
        read(x, 2, 0, 1, 1);
        first(x, 2, 0, 1);
        // So is what it is to be.
        Check.kind(x, 2, "d");
        read(x, 2, 0, 0, 0);
        first(x, 2, 0, NONE);
        due("rows then", x.rows(2, 0, 1), 0);
        near(x, 2, 0, NONE, NONE);
    }

    // "A SENTENCE: WORDS in a row (6 at most"; say: "how many it has. BAD; FULL".
    private static void sixWordsAtMost() {
        SlashKinds x = withKinds("a", "b", "(a/b)", "(b/b)");
        x.word(0, 1 << 2);
        x.word(1, 1 << 3);
        x.word(2, 1 << 1);
        int[] words = {0, 1, 1, 1, 1, 2};
        for (int n = 1; n <= 6; n++) {
            due("say, " + n, x.say(words[n - 1]), n);
        }
        for (int w = 0; w < 4; w++) {
            due("say a seventh", x.say(w), FULL);
        }
        due("six", x.count(1), 6);
        read(x, 0, 0, 1, 1);
        first(x, 0, 0, 2, 3, 3, 3, 3, 1);
        due("hush", x.hush(), 6);
        due("say then", x.say(3), 1);
    }

    // "empty at first".
    private static void emptyAtFirst() {
        SlashKinds x = new SlashKinds();
        due("WORDS", x.count(1), 0);
        due("hush", x.hush(), 0);
        due("near", x.near(0, 1, -1), NONE);
        due("first", x.first(0, 1, 0), BAD);
    }

    // "in how many ways KINDS can be chosen, one for each WORD": of none, of one.
    private static void oneKindForEachWord() {
        SlashKinds x = withKinds("a", "(a/a)", "(a*a)", "((a/a)*(b/b))", "(b/b)", "b");
        // No WORD: one choice, an empty row; it has a MEANING by EMPTY alone.
        read(x, 0, 0, 0, 0);
        read(x, 0, 1, 0, 0);
        read(x, 1, 0, 0, 0);
        read(x, 1, 1, 1, 1);
        read(x, 3, 1, 0, 0);
        x.word(0, 1 << 1);
        read(said(x, 0), 1, 0, 1, 1);
        x.word(0, 1 << 1 | 1 << 4);
        read(x, 1, 0, 1, 1);
        x.word(0, 1 << 1 | 1 << 4 | 1 << 5);
        read(x, 1, 1, 1, 1);
        read(x, 5, 1, 1, 1);
        read(x, 0, 1, 0, 0);
    }

    // "each with KINDS 0 .. 11 that it may be (.. none at first": no KIND can be chosen for it.
    private static void aWordThatMayBeNothing() {
        SlashKinds x = withKinds("a", "(a/a)");
        x.word(0, 1);
        x.word(1, 1 << 1);
        read(said(x, 1, 0), 0, 1, 1, 1);
        for (int[] words : new int[][] {{2}, {2, 1, 0}, {1, 2, 0}, {1, 0, 2}, {2, 2, 2, 2, 2, 2}}) {
            read(said(x, words), 0, 0, 0, 0);
            read(x, 0, 1, 0, 0);
            first(x, 0, 1, NONE);
        }
        near(said(x, 2, 0), 0, 0, 1, 1, 0);
    }

    private static void read(SlashKinds x, int i, int logic, int ways, int meant, int firstKind) {
        read(x, i, logic, ways, meant);
        first(x, i, logic, firstKind);
    }

    // "MEANT: the sum of MEANINGS over all choices"; six WORDS with three KINDS each.
    private static void allChoicesOfSixWords() {
        SlashKinds x = withKinds("a", "(a/a)", "(a/a)", "(a/a)", "a", "a", "(a\\a)", "(a\\a)", "(a\\a)");
        x.word(0, 1 << 1 | 1 << 2 | 1 << 3);
        x.word(1, 1 | 1 << 4 | 1 << 5);
        x.word(2, 1 << 6 | 1 << 7 | 1 << 8);
        // Each of 729 choices has 10 MEANINGS.
        for (int logic = 0; logic <= 1; logic++) {
            read(said(x, 0, 0, 0, 1, 2, 2), 0, logic, 729, 7290);
            first(x, 0, logic, 1, 1, 1, 0, 6, 6);
        }
        // The last of all choices alone.
        x.word(0, 1 << 0 | 1 << 1 | 1 << 11);
        x.word(1, 1 << 6 | 1 << 9 | 1 << 10);
        Check.kind(x, 0, "c");
        Check.kind(x, 1, "(c/d)");
        Check.kind(x, 11, "(a/a)");
        Check.kind(x, 6, "d");
        Check.kind(x, 9, "(d\\d)");
        Check.kind(x, 10, "(e/e)");
        x.word(2, 1 << 2);
        Check.kind(x, 4, "(a/e)");
        x.word(3, 1 << 4 | 1 << 6 | 1 << 7);
        read(said(x, 0, 0), 11, 0, 1, 1);
        first(x, 11, 0, 11, 11);
        read(said(x, 0, 0, 0, 0, 0, 0), 11, 0, 1, 1);
        first(x, 11, 0, 11, 11, 11, 11, 11, 11);
        read(said(x, 0, 0, 0, 0, 3, 1), 4, 0, 1, 1);
        first(x, 4, 0, 11, 11, 11, 11, 4, 10);
    }

    // "READ .. so that the row has a MEANING", "MEANT: the sum of MEANINGS".
    private static void meantIsTheSum() {
        SlashKinds x = withKinds("a", "(a/a)", "(a\\a)", "b", "(a/b)");
        x.word(0, 1);
        x.word(1, 1 << 1);
        x.word(2, 1 << 2);
        x.word(3, 1 << 1 | 1 << 3 | 1 << 4);
        read(said(x, 1, 0, 2), 0, 0, 1, 2);
        read(said(x, 3, 0, 2), 0, 0, 1, 2);
        read(said(x, 1, 1, 0, 2, 2), 0, 0, 1, 6);
        // (a / a) a has one, (a / b) b another one: 1 and 1 of the nine.
        x.word(0, 1 | 1 << 3);
        read(said(x, 3, 0), 0, 0, 2, 2);
        read(said(x, 0, 3), 0, 0, 0, 0);
        // By EMPTY a choice has one more.
        Check.kind(x, 5, "(a/(a\\a))");
        x.word(1, 1 << 5);
        read(said(x, 1, 2), 0, 0, 1, 1);
        read(x, 0, 1, 1, 2);
    }

    // "(A choice with a * .. is none".
    private static void aChoiceWithAStarIsNone() {
        String[] starred = {"(a*a)", "(a*(a\\a))", "(a/(a*a))", "((a*a)\\a)", "((a*a)/a)", "((a/a)*(a/a))"};
        for (String one : starred) {
            SlashKinds x = withKinds("a", one, "a", "(a/a)");
            x.word(0, 1 << 1);
            x.word(1, 1 << 1 | 1 << 2);
            x.word(2, 1 << 3);
            for (int logic = 0; logic <= 1; logic++) {
                read(said(x, 0), 0, logic, 0, 0);
                first(x, 0, logic, NONE);
                read(said(x, 0, 2), 0, logic, 0, 0);
                read(said(x, 2, 0, 2), 0, logic, 0, 0);
                // The others are as they would be without it.
                read(said(x, 1), 0, logic, 1, 1, 2);
                read(said(x, 2, 1), 0, logic, 1, 1, 3);
                due("rows of one WORD", x.rows(0, logic, 1), 1);
                due("rows of two WORDS", x.rows(0, logic, 2), 1);
                near(said(x, 0), 0, logic, 1, 1);
            }
        }
        SlashKinds x = withKinds("a", "(a/(b*c))", "b", "c");
        Check.row(x, "(a/(b*c))", "b", "c");
        due("what it IS", x.is(0, 0), 1);
        x.word(0, 1 << 1);
        x.word(1, 1 << 2);
        x.word(2, 1 << 3);
        read(said(x, 0, 1, 2), 0, 0, 0, 0);
    }

    // "or more than 16 ATOMS with the goal, is none" (17 are never of a KIND: letters pair).
    private static void moreThanSixteenAtomsIsNone() {
        SlashKinds x = withKinds(EIGHT, NINE, "(a/b)", "(b/c)", "a", "((a/c)/b)", "(a/a)");
        x.word(0, 1);
        x.word(1, 1 << 1);
        x.word(2, 1 | 1 << 1);
        for (int logic = 0; logic <= 1; logic++) {
            read(said(x, 0), 0, logic, 1, 1, 0);
            read(said(x, 1), 1, logic, 0, 0, NONE);
            read(said(x, 2), 0, logic, 1, 1, 0);
            read(said(x, 2), 1, logic, 0, 0, NONE);
            due("rows of 16", x.rows(0, logic, 1), 2);
            due("rows of 18", x.rows(1, logic, 1), 0);
            near(said(x, 1), 0, logic, 1, 0);
            near(said(x, 2), 0, logic, 0, 2);
            near(said(x, 0), 1, logic, NONE, NONE);
        }
        Check.row(x, NINE);
        due("MEANINGS of 18", x.meanings(1, 0), STATE);
        // By the WORDS: four of two ATOMS make 16, five make 18; of six ATOMS two and three.
        x = withKinds("((a/b)/(c/d))", "(a/a)", "((a/b)/(c/(d/(e/f))))");
        x.word(0, 1 << 1);
        x.word(1, 1);
        x.word(2, 1 << 2);
        for (int logic = 0; logic <= 1; logic++) {
            read(said(x, 0, 0, 0, 0, 1), 0, logic, 1, 1, 1);
            read(said(x, 0, 0, 0, 0, 0, 1), 0, logic, 0, 0, NONE);
            read(said(x, 0, 0, 2), 2, logic, 1, 1, 1);
            read(said(x, 0, 0, 0, 2), 2, logic, 0, 0, NONE);
            due("rows of three", x.rows(2, logic, 3), 1);
            due("rows of four", x.rows(2, logic, 4), 0);
            near(said(x, 0, 0, 2), 2, logic, 0, 0, 0, 2);
            near(said(x, 0, 0, 0, 2), 2, logic, NONE, NONE, NONE, NONE, NONE);
        }
    }

    // "a goal with a *: none at all)".
    private static void aGoalWithAStarIsNoneAtAll() {
        SlashKinds x = withKinds("a", "b", "(a*b)", "((a/a)*(b/b))", "(c/(a*b))", "((c/b)/a)", "((a*b)/c)",
            "((a*b)\\c)", "(a/a)");
        x.word(0, 1);
        x.word(1, 1 << 1);
        x.word(2, 1 << 5);
        x.word(3, 1 << 2 | 1 << 4 | 1 << 7);
        Check.row(x, "((c/b)/a)");
        due("what it IS", x.is(4, 0), 1);
        int[][] sentences = {{}, {0, 1}, {0}, {2}, {3}, {0, 1, 2, 3, 0, 1}};
        for (int[] words : sentences) {
            for (int i : new int[] {2, 3, 4, 6, 7}) {
                read(said(x, words), i, 1, 0, 0);
                if (words.length > 0) {
                    first(x, i, 1, NONE);
                }
                if (words.length <= 4) {
                    near(x, i, 1, NONE);
                }
            }
        }
        due("rows as a pair", x.rows(2, 0, 2), 0);
        due("rows as what wants a pair", x.rows(4, 0, 1), 0);
        read(said(x, 0), 0, 0, 1, 1);
    }

    // "FIRST READING: the first choice by the first WORD's KIND's number, then the second's, ..".
    private static void firstByTheFirstWord() {
        SlashKinds x = withKinds("a", "b", "(b\\a)", "(a/b)", "c", "b", "(a/b)", "(b\\a)");
        // 1 2 and 3 1 can be read: the first WORD is looked at first.
        x.word(0, 1 << 1 | 1 << 3);
        x.word(1, 1 << 1 | 1 << 2);
        first(said(x, 0, 1), 0, 0, 1, 2);
        // 3 1 and 5 2.
        x.word(0, 1 << 3 | 1 << 5);
        first(x, 0, 0, 3, 1);
        // 3 1 and 3 5: the second WORD.
        x.word(0, 1 << 3);
        x.word(1, 1 << 1 | 1 << 5);
        first(x, 0, 0, 3, 1);
        Check.kind(x, 1, "c");
        first(x, 0, 0, 3, 5);
        // 3 5 alone of 3 4 and 3 5; 6 too is behind it.
        x.word(0, 1 << 3 | 1 << 4 | 1 << 6);
        x.word(1, 1 << 4 | 1 << 5);
        first(x, 0, 0, 3, 5);
        x.word(0, 1 << 4 | 1 << 6);
        first(x, 0, 0, 6, 5);
        // None.
        x.word(0, 1 << 4);
        first(x, 0, 0, NONE, NONE);
        // A LOGIC of its own.
        Check.kind(x, 9, "(a/(c/c))");
        x.word(2, 1 << 9 | 1 << 10);
        first(said(x, 2), 0, 0, 10);
        first(x, 0, 1, 9);
    }

    // "ROWS of a length (1 .. 4): how many rows of WORDS of it can be READ in some way"; "BAD".
    private static void rowsOfLengthOneToFour() {
        SlashKinds x = withKinds("a", "(a/a)", "(a/a)", "(a/a)", "(c/c)");
        int[] all = {0, 4, 16, 64, 256};
        for (int length = 1; length <= 4; length++) {
            due("rows of WORDS that may be nothing", x.rows(1, 1, length), 0);
        }
        for (int w = 0; w < 4; w++) {
            x.word(w, 1 << 1 | 1 << 2 | 1 << 3);
        }
        for (int length = 1; length <= 4; length++) {
            due("all rows of " + length, x.rows(1, 0, length), all[length]);
            due("all rows of " + length + " by EMPTY", x.rows(1, 1, length), all[length]);
            due("no row of " + length, x.rows(0, 0, length), 0);
            due("no row of " + length + " as (c / c)", x.rows(4, 1, length), 0);
        }
        x.word(0, 0);
        x.word(1, 1 << 4);
        x.word(2, 1 << 4);
        for (int length = 1; length <= 4; length++) {
            due("the last row of " + length, x.rows(1, 0, length), 1);
        }
        x.word(3, 0);
        x.word(0, 1 << 1);
        for (int length = 1; length <= 4; length++) {
            due("the first row of " + length, x.rows(1, 0, length), 1);
        }
        for (int length : new int[] {0, 5, -1, 6, Integer.MIN_VALUE, Integer.MAX_VALUE}) {
            due("rows of " + length, x.rows(1, 0, length), BAD);
        }
        // THE SENTENCE is no matter, one of six WORDS neither.
        due("rows with six said", said(x, 3, 3, 3, 3, 3, 3).rows(1, 0, 4), 1);
    }

    /** WORD 0 is a / b, 1 and 2 are b, 3 is c: as a 0 1 and 0 2 can be READ. */
    private static SlashKinds pairs() {
        SlashKinds x = withKinds("a", "b", "(a/b)", "c");
        x.word(0, 1 << 2);
        x.word(1, 1 << 1);
        x.word(2, 1 << 1);
        x.word(3, 1 << 3);
        return x;
    }

    // "NEAR: the fewest WORDS .. that have to be another one": none of them.
    private static void nearWithoutAChange() {
        SlashKinds x = pairs();
        near(said(x, 0, 1), 0, 0, 0, 0, 1);
        near(said(x, 0, 2), 0, 0, 0, 0, 2);
        near(said(x, 3), 3, 0, 0, 3);
        // An empty SENTENCE has nothing to change: it is READ, or it is not.
        Check.kind(x, 4, "(a/a)");
        near(said(x), 4, 1, 0);
        near(x, 4, 0, NONE);
        near(x, 0, 1, NONE);
    }

    // The same: all of them.
    private static void nearWithEveryWordChanged() {
        near(said(pairs(), 3, 3), 0, 0, 2, 0, 1);
        near(said(pairs(), 1, 0), 0, 0, 2, 0, 1);
        near(said(pairs(), 2, 3), 0, 0, 2, 0, 1);
        near(said(pairs(), 0), 3, 0, 1, 3);
        SlashKinds x = withKinds("a", "(a/a)", "c");
        for (int w = 0; w < 3; w++) {
            x.word(w, 1 << 2);
        }
        x.word(3, 1 << 1);
        near(said(x, 0, 1, 2, 0), 1, 0, 4, 3, 3, 3, 3);
        near(said(x, 3, 1, 2, 0), 1, 0, 3, 3, 3, 3, 3);
        near(said(x, 3, 3, 3, 0), 1, 0, 1, 3, 3, 3, 3);
        near(said(x, 3, 3, 3, 3), 1, 0, 0, 3, 3, 3, 3);
    }

    // "of several the first row by WORDS' numbers".
    private static void nearOfSeveralTheFirst() {
        near(said(pairs(), 0, 3), 0, 0, 1, 0, 1);
        near(said(pairs(), 0, 0), 0, 0, 1, 0, 1);
        near(said(pairs(), 3, 1), 0, 0, 1, 0, 1);
        // Fewer changes come ahead of lower numbers.
        near(said(pairs(), 3, 2), 0, 0, 1, 0, 2);
        near(said(pairs(), 1, 2), 0, 0, 1, 0, 2);
        // 0 2 and 1 0 can be READ: either place may change, the lower first WORD is told.
        SlashKinds x = withKinds("a", "b", "(a/b)", "(b\\a)");
        x.word(0, 1 << 1);
        x.word(1, 1 << 2);
        x.word(2, 1 << 3);
        near(said(x, 1, 2), 0, 0, 1, 0, 2);
        near(said(x, 0, 0), 0, 0, 1, 0, 2);
        near(said(x, 3, 3), 0, 0, 2, 0, 2);
        near(said(x, 1, 3), 0, 0, 1, 1, 0);
        near(said(x, 1, 0), 0, 0, 0, 1, 0);
    }

    // "NONE".
    private static void nearNone() {
        near(said(pairs(), 0, 1), 1, 0, NONE, NONE, NONE);
        near(said(pairs(), 0), 0, 0, NONE, NONE);
        near(said(new SlashKinds(), 0, 1, 2, 3), 0, 1, NONE, NONE, NONE, NONE, NONE);
    }

    // "(4 WORDS at most, else STATE.)"; near: "STATE: more than 4 WORDS".
    private static void fourWordsAtMost() {
        SlashKinds x = withKinds("a", "(a/a)");
        for (int w = 0; w < 4; w++) {
            x.word(w, 1 << 1);
        }
        for (int n = 1; n <= 6; n++) {
            x.say(n % 4);
            for (int k = -1; k < n; k++) {
                due("near of " + n + ", " + k, x.near(1, 0, k), n > 4 ? STATE : k < 0 ? 0 : (k + 1) % 4);
            }
            read(x, 1, 0, 1, 1);
            first(x, 1, 0, 1);
        }
        // Where there would be NONE, more than 4 WORDS are STATE all the same.
        due("near of six as a", x.near(0, 0, -1), STATE);
        said(x, 0, 0, 0, 0);
        due("near of four as a", x.near(0, 0, -1), NONE);
    }

    // hush: "THE SENTENCE is empty: how many it had".
    private static void hushTellsHowMany() {
        SlashKinds x = new SlashKinds();
        due("hush of none", x.hush(), 0);
        x.word(0, 1);
        for (int n : new int[] {1, 5, 6}) {
            for (int p = 0; p < n; p++) {
                x.say(p % 4);
            }
            due("hush of " + n, x.hush(), n);
            due("hush again", x.hush(), 0);
            due("WORDS then", x.count(1), 0);
            due("reads then", x.reads(0, 1, 0), 0);
        }
        x.say(0);
        due("none of those that were stand behind the one", x.reads(0, 0, 0), 1);
    }

    // "READ as a KIND by a LOGIC" (0 FULL, 1 EMPTY); so of FIRST READING, ROWS, NEAR.
    private static void byFullOrByEmpty() {
        SlashKinds x = withKinds("a", "(a/(b/b))", "(b\\b)", "c");
        x.word(0, 1 << 1);
        x.word(1, 1 << 2);
        x.word(2, 1 << 3);
        read(said(x, 0), 0, 0, 0, 0, NONE);
        read(x, 0, 1, 1, 1, 1);
        due("rows by FULL", x.rows(0, 0, 1), 0);
        due("rows by EMPTY", x.rows(0, 1, 1), 1);
        near(x, 0, 0, NONE, NONE);
        near(x, 0, 1, 0, 0);
        near(said(x, 2), 0, 0, NONE, NONE);
        near(said(x, 2), 0, 1, 1, 0);
    }

    // reads, first, rows, near: "BAD" of a KIND, of a LOGIC.
    private static void kindsAndLogicsThatAreNone() {
        SlashKinds x = new SlashKinds();
        x.word(0, 1);
        x.say(0);
        for (int i : new int[] {0, 11}) {
            for (int logic = 0; logic <= 1; logic++) {
                read(x, i, logic, 1, 1, 0);
                due("rows(" + i + ")", x.rows(i, logic, 1), 1);
                near(x, i, logic, 0, 0);
            }
        }
        for (int i : NO_KINDS) {
            read(x, i, 0, BAD, BAD, BAD);
            due("rows(" + i + ")", x.rows(i, 0, 1), BAD);
            near(x, i, 0, BAD, BAD);
        }
        for (int logic : NO_LOGICS) {
            read(x, 0, logic, BAD, BAD, BAD);
            due("rows by " + logic, x.rows(0, logic, 1), BAD);
            near(x, 0, logic, BAD, BAD);
        }
    }

    // reads: "(what = 0), MEANT (1). BAD".
    private static void readsWhatZeroOrOne() {
        SlashKinds x = withKinds("a", "(a/a)", "(a\\a)");
        x.word(0, 1);
        x.word(1, 1 << 1);
        x.word(2, 1 << 2);
        said(x, 1, 0, 2);
        due("what 0", x.reads(0, 0, 0), 1);
        due("what 1", x.reads(0, 0, 1), 2);
        for (int what : new int[] {-1, 2, Integer.MIN_VALUE, Integer.MAX_VALUE}) {
            due("what " + what, x.reads(0, 0, what), BAD);
        }
    }

    // first: "The KIND of WORD k in FIRST READING; NONE. BAD".
    private static void firstOfPlacesOfTheSentence() {
        SlashKinds x = pairs();
        for (int k = -1; k <= 6; k++) {
            due("first of none, " + k, x.first(0, 1, k), BAD);
        }
        said(x, 0, 1);
        first(x, 0, 0, 2, 1);
        for (int k : new int[] {-1, 2, 5, 6, Integer.MIN_VALUE, Integer.MAX_VALUE}) {
            due("first of two, " + k, x.first(0, 0, k), BAD);
            due("first of two that are none, " + k, x.first(3, 0, k), BAD);
        }
        first(x, 3, 0, NONE, NONE);
        said(x, 0, 1, 1, 1, 1, 1);
        due("first of six, 5", x.first(0, 0, 5), NONE);
        due("first of six, 6", x.first(0, 0, 6), BAD);
    }

    // near: "how many WORDS (k = -1), the WORD at k; NONE. BAD".
    private static void nearOfPlacesOfTheSentence() {
        SlashKinds x = pairs();
        for (int k : new int[] {-2, 0, 1, 4, Integer.MIN_VALUE, Integer.MAX_VALUE}) {
            due("near of none, " + k, x.near(0, 0, k), BAD);
        }
        near(said(x, 3, 3), 0, 0, 2, 0, 1);
        for (int k : new int[] {-2, 2, 3, 4, Integer.MIN_VALUE, Integer.MAX_VALUE}) {
            due("near of two, " + k, x.near(0, 0, k), BAD);
            due("near of two that are none, " + k, x.near(1, 0, k), BAD);
        }
        said(x, 0, 1, 2, 3);
        due("near of four, 3", x.near(3, 0, 3), NONE);
        due("near of four, 4", x.near(3, 0, 4), BAD);
    }

    // "Refused, and nothing changes, the first of these: BAD, STATE, FULL".
    private static void badAheadOfFullAndState() {
        SlashKinds x = said(pairs(), 0, 1, 2, 3, 0, 1);
        for (int w : NO_WORDS) {
            due("say(" + w + ") behind six", x.say(w), BAD);
        }
        due("near of six", x.near(0, 0, -1), STATE);
        due("near of six, 5", x.near(0, 0, 5), STATE);
        due("near of six, 6", x.near(0, 0, 6), BAD);
        due("near of six, -2", x.near(0, 0, -2), BAD);
        for (int i : NO_KINDS) {
            due("near of six as " + i, x.near(i, 0, -1), BAD);
        }
        for (int logic : NO_LOGICS) {
            due("near of six by " + logic, x.near(0, logic, -1), BAD);
        }
        due("word(1, ..) of four", x.word(1, 15), BAD);
        due("word(4, ..) of none", x.word(4, 0), BAD);
    }

    // count: "0 KINDS in THE ROW, 1 WORDS of THE SENTENCE, 2 bytes of THE TEXT, 3 ATOMS of THE ROW. BAD".
    private static void countZeroToThree() {
        SlashKinds x = withKinds("((((a*a)*a)*((a*a)*a))*(((a*a)*a)*((a*a)*a)))", "(a/b)");
        for (int what = 0; what <= 3; what++) {
            due("count(" + what + ") of nothing", x.count(what), 0);
        }
        for (int n = 1; n <= 8; n++) {
            x.add(0);
            due("KINDS", x.count(0), n);
            due("ATOMS", x.count(3), 12 * n);
        }
        for (int n = 1; n <= 6; n++) {
            x.say(0);
            due("WORDS", x.count(1), n);
        }
        for (int n = 1; n <= 10; n++) {
            x.type(0, 8);
            due("bytes", x.count(2), 8 * n);
        }
        for (int what : new int[] {-1, 4, 5, Integer.MIN_VALUE, Integer.MAX_VALUE}) {
            due("count(" + what + ")", x.count(what), BAD);
        }
    }
}
