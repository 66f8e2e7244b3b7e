/** Promises 15 to 22: words, sentences and what is counted, with answers told by hand from the document. */
public final class ListTests {
    private static final int BAD = -1;
    private static final int STATE = -2;
    private static final int FULL = -3;
    private static final int NONE = -9;
    private static final int[] NO_KINDS = {-1, 12, 13, 16, 32, 44, -12, Integer.MIN_VALUE, Integer.MAX_VALUE};
    private static final int[] NO_LOGICS = {-1, 2, 3, -2, Integer.MIN_VALUE, Integer.MAX_VALUE};
    private static final int[] NO_WORDS = {-1, 4, 5, 8, -4, Integer.MIN_VALUE, Integer.MAX_VALUE};

    public static void main(String[] args) {
        word();
        say();
        hush();
        reads();
        readsManyWays();
        readsNone();
        readsLimits();
        kindsAsTheyAre();
        emptySentence();
        first();
        rows();
        near();
        nearOrder();
        nearLimits();
        bad();
        count();
        nothingChanges();
        Check.end("ListTests");
    }

    private static void due(String call, long got, long want) {
        Check.due(call, got, want);
    }

    /** KINDS 1 (b / b's own) .. of a small tongue: KIND 0 is a, what is to be read. */
    private static SlashKinds tongue() {
        SlashKinds x = new SlashKinds();
        Check.kind(x, 1, "b");
        Check.kind(x, 2, "(b\\a)");
        Check.kind(x, 3, "((b\\a)/b)");
        Check.kind(x, 4, "(b/b)");
        Check.kind(x, 5, "(a/(b\\a))");
        x.word(0, 1 << 1);
        x.word(1, 1 << 2 | 1 << 3);
        x.word(2, 1 << 4);
        x.word(3, 1 << 1 | 1 << 5);
        return x;
    }

    private static SlashKinds said(SlashKinds x, int... words) {
        x.hush();
        for (int w : words) {
            x.say(w);
        }
        return x;
    }

    private static void word() {
        SlashKinds x = new SlashKinds();
        due("word(0, 7)", x.word(0, 7), 0);
        due("word(0, 0)", x.word(0, 0), 7);
        due("word(0, 2048)", x.word(0, 2048), 0);
        due("word(3, 3584)", x.word(3, 3584), 0);
        due("word(0, 1)", x.word(0, 1), 2048);
        due("word(3, 3)", x.word(3, 3), 3584);
        due("word(1, 5)", x.word(1, 5), 0);
        due("word(2, 9)", x.word(2, 9), 0);
        for (int set : new int[] {15, 4095, 0x888 | 1, 4096, 4097, 8192, -1, -8, Integer.MIN_VALUE,
                Integer.MAX_VALUE, 1 << 30, 3585}) {
            due("word(1, " + set + ")", x.word(1, set), BAD);
        }
        for (int w : NO_WORDS) {
            due("word(" + w + ", 1)", x.word(w, 1), BAD);
            due("word(" + w + ", 15)", x.word(w, 15), BAD);
        }
        due("word 1 stays", x.word(1, 0), 5);
        due("word 0 stays", x.word(0, 0), 1);
        due("word 2 stays", x.word(2, 0), 9);
        due("word 3 stays", x.word(3, 0), 3);
    }

    private static void say() {
        SlashKinds x = new SlashKinds();
        due("say(3)", x.say(3), 1);
        for (int w : NO_WORDS) {
            due("say(" + w + ")", x.say(w), BAD);
        }
        for (int n = 2; n <= 6; n++) {
            due("say(" + n % 4 + ")", x.say(n % 4), n);
        }
        due("say a seventh", x.say(0), FULL);
        due("BAD ahead of FULL", x.say(4), BAD);
        due("BAD ahead of FULL", x.say(-1), BAD);
        due("six", x.count(1), 6);
        due("hush", x.hush(), 6);
        due("say again", x.say(1), 1);
    }

    private static void hush() {
        SlashKinds x = tongue();
        due("hush of none", x.hush(), 0);
        said(x, 0, 1);
        x.add(0);
        Check.type(x, "abc");
        due("hush", x.hush(), 2);
        due("count", x.count(1), 0);
        due("row stays", x.count(0), 1);
        due("text stays", x.count(2), 3);
        due("words stay", x.word(0, 2), 2);
        due("hush again", x.hush(), 0);
        due("none is read", x.reads(0, 0, 0), 0);
    }

    private static void read(SlashKinds x, int i, int full, int fullMeant, int empty, int emptyMeant) {
        due("reads(" + i + ", 0, 0)", x.reads(i, 0, 0), full);
        due("reads(" + i + ", 0, 1)", x.reads(i, 0, 1), fullMeant);
        due("reads(" + i + ", 1, 0)", x.reads(i, 1, 0), empty);
        due("reads(" + i + ", 1, 1)", x.reads(i, 1, 1), emptyMeant);
    }

    private static void reads() {
        SlashKinds x = tongue();
        read(said(x, 0, 1), 0, 1, 1, 1, 1);
        read(said(x, 0, 1), 1, 0, 0, 0, 0);
        read(said(x, 0, 1, 0), 0, 1, 1, 1, 1);
        read(said(x, 1, 0), 0, 0, 0, 0, 0);
        read(said(x, 0), 1, 1, 1, 1, 1);
        // WORD 3 is b, or raised: two choices, each with its MEANING.
        read(said(x, 3, 1), 0, 2, 2, 2, 2);
        read(said(x, 3, 1, 3), 0, 2, 2, 2, 2);
        read(said(x, 2, 0, 1, 2, 0), 0, 1, 1, 1, 1);
        read(said(x, 2, 2, 2, 0), 1, 1, 1, 1, 1);
        read(said(x, 0, 2), 1, 0, 0, 0, 0);
        read(said(x, 1), 2, 1, 1, 1, 1);
        read(said(x, 1, 0), 2, 1, 1, 1, 1);
        read(said(x, 2, 2), 4, 1, 1, 1, 1);
    }

    private static void readsManyWays() {
        SlashKinds x = new SlashKinds();
        Check.kind(x, 1, "(a/a)");
        Check.kind(x, 2, "(a\\a)");
        Check.kind(x, 3, "(a/a)");
        x.word(0, 1);
        x.word(1, 1 << 1 | 1 << 3);
        x.word(2, 1 << 2);
        x.word(3, 1 << 1 | 1 << 2 | 1 << 3);
        // Two numbers are two ways, though they tell the same KIND.
        read(said(x, 1, 0, 2), 0, 2, 4, 2, 4);
        read(said(x, 1, 1, 0), 0, 4, 4, 4, 4);
        read(said(x, 1, 1, 0, 2, 2), 0, 4, 24, 4, 24);
        read(said(x, 3, 3, 0), 0, 4, 4, 4, 4);
        read(said(x, 0, 3), 0, 1, 1, 1, 1);
        read(said(x, 3, 0, 3, 3, 3), 0, 2, 8, 2, 8);
        read(said(x, 3, 3, 3, 3, 3), 0, 0, 0, 0, 0);
        // 243 choices of five: all behind or ahead of it must look towards it.
        read(said(x, 3, 3, 3, 3, 3, 0), 0, 32, 32, 32, 32);
        read(said(x, 0, 3, 3, 3, 3, 3), 0, 1, 1, 1, 1);
        // (a / a) (a / a) and (a \ a) (a \ a) are each (a / a): the first as they stand, the second not.
        read(said(x, 3, 3), 1, 4, 4, 4, 4);
        read(said(x, 3, 3), 2, 1, 1, 1, 1);
    }

    private static void readsNone() {
        SlashKinds x = tongue();
        Check.kind(x, 6, "(b*c)");
        Check.kind(x, 7, "(b/(c*c))");
        Check.kind(x, 8, "(a/b)");
        x.word(2, 1 << 1 | 1 << 6 | 1 << 7);
        // Choices with a * are none; the others stay.
        read(said(x, 2, 1), 0, 1, 1, 1, 1);
        due("the first without a *", x.first(0, 0, 0), 1);
        read(said(x, 2), 6, 0, 0, 0, 0);
        due("first as a KIND with a *", x.first(6, 0, 0), NONE);
        due("rows as a KIND with a *", x.rows(6, 1, 1), 0);
        due("near as a KIND with a *", x.near(6, 1, -1), NONE);
        due("near as a KIND with a *, WORD", x.near(6, 1, 0), NONE);
        read(said(x, 2), 7, 0, 0, 0, 0);
        // A WORD that may be nothing can't be read.
        x.word(2, 0);
        read(said(x, 2, 1), 0, 0, 0, 0, 0);
        read(said(x, 2), 1, 0, 0, 0, 0);
        due("first of it", x.first(1, 0, 0), NONE);
        due("near of it", x.near(1, 0, -1), 1);
    }

    private static void readsLimits() {
        SlashKinds x = new SlashKinds();
        Check.kind(x, 1, "((((((a/b)/c)/d)/e)/f)/g)");
        Check.kind(x, 2, "((((((a/b)/c)/d)/e)/f)/h)");
        Check.kind(x, 3, "((((((a/b)/c)/d)/e)/f)/b)");
        Check.kind(x, 4, "(g/h)");
        Check.kind(x, 5, "(h/b)");
        Check.kind(x, 6, "g");
        x.word(0, 1 << 1);
        x.word(1, 1 << 4 | 1 << 6);
        x.word(2, 1 << 5);
        // 7 and 2 ATOMS with a goal of 7.
        read(said(x, 0, 1), 2, 1, 1, 1, 1);
        due("first of 16 ATOMS", x.first(2, 0, 1), 4);
        due("rows of 16 ATOMS", x.rows(2, 0, 2), 1);
        due("near of 16 ATOMS", x.near(2, 0, -1), 0);
        Check.row(x, "((((((a/b)/c)/d)/e)/f)/g)", "(g/h)");
        due("16 ATOMS", x.meanings(2, 0), 1);
        // 7, 2 and 2 with a goal of 7: it would be one, but has too many ATOMS.
        read(said(x, 0, 1, 2), 3, 0, 0, 0, 0);
        due("first of 18 ATOMS", x.first(3, 0, 0), NONE);
        due("rows of 18 ATOMS", x.rows(3, 0, 3), 0);
        due("near of 18 ATOMS", x.near(3, 0, -1), NONE);
        x.add(5);
        due("18 ATOMS", x.meanings(3, 0), STATE);
        // Too many ATOMS of one choice leave the others.
        Check.kind(x, 7, "((((((a/b)/c)/d)/e)/f)/h)");
        Check.kind(x, 8, "(a/(a/(a/(a/(a/(a/a))))))");
        x.word(3, 1 << 1 | 1 << 7 | 1 << 8);
        read(said(x, 3, 1), 7, 1, 1, 1, 1);
        due("first of the others", x.first(7, 1, 0), 1);
    }

    private static void kindsAsTheyAre() {
        SlashKinds x = tongue();
        said(x, 0, 1);
        read(x, 0, 1, 1, 1, 1);
        Check.kind(x, 1, "c");
        read(x, 0, 0, 0, 0, 0);
        Check.kind(x, 2, "(c\\a)");
        read(x, 0, 1, 1, 1, 1);
        x.word(1, 1 << 3);
        read(x, 0, 0, 0, 0, 0);
        x.word(1, 1 << 2);
        read(x, 0, 1, 1, 1, 1);
    }

    private static void emptySentence() {
        SlashKinds x = tongue();
        read(x, 0, 0, 0, 0, 0);
        read(x, 4, 0, 0, 1, 1);
        due("near of none", x.near(0, 0, -1), NONE);
        due("near of none, FULL", x.near(4, 0, -1), NONE);
        due("near of none, EMPTY", x.near(4, 1, -1), 0);
        due("near of none, WORD 0", x.near(4, 1, 0), BAD);
        due("first of none", x.first(4, 1, 0), BAD);
        due("first of none, -1", x.first(4, 1, -1), BAD);
    }

    private static void firstOf(SlashKinds x, int i, int logic, int... want) {
        for (int k = 0; k < want.length; k++) {
            due("first(" + i + ", " + logic + ", " + k + ")", x.first(i, logic, k), want[k]);
        }
    }

    private static void first() {
        SlashKinds x = tongue();
        firstOf(said(x, 0, 1), 0, 0, 1, 2);
        firstOf(said(x, 0, 1, 0), 0, 0, 1, 3, 1);
        firstOf(said(x, 3, 1), 0, 1, 1, 2);
        firstOf(said(x, 3, 1, 3), 0, 0, 1, 3, 1);
        firstOf(said(x, 1, 0), 0, 0, NONE, NONE);
        firstOf(said(x, 2, 0, 1, 2, 0), 0, 1, 4, 1, 3, 4, 1);
        // Of what b may be the lowest number comes first, the first WORD's ahead of the second's.
        Check.kind(x, 9, "b");
        Check.kind(x, 10, "(b\\a)");
        Check.kind(x, 11, "(a/(b\\a))");
        x.word(0, 1 << 9 | 1 << 11);
        x.word(1, 1 << 2 | 1 << 10);
        firstOf(said(x, 0, 1), 0, 0, 9, 2);
        x.word(1, 1 << 10);
        firstOf(x, 0, 0, 9, 10);
        x.word(0, 1 << 11 | 1 << 5);
        firstOf(x, 0, 0, 5, 10);
        Check.kind(x, 1, "(b/c)");
        Check.kind(x, 7, "c");
        x.word(0, 1 << 1 | 1 << 9);
        x.word(1, 1 << 7 | 1 << 10);
        x.word(2, 1 << 2);
        firstOf(said(x, 0, 1, 2), 0, 0, 1, 7, 2);
        firstOf(said(x, 0, 1), 0, 0, 9, 10);
        // By EMPTY another choice is first.
        Check.kind(x, 3, "(a/(c/c))");
        Check.kind(x, 6, "a");
        x.word(3, 1 << 3 | 1 << 6);
        firstOf(said(x, 3), 0, 0, 6);
        firstOf(said(x, 3), 0, 1, 3);
        x = tongue();
        said(x, 2, 2, 2, 2, 2, 0);
        firstOf(x, 1, 0, 4, 4, 4, 4, 4, 1);
    }

    private static void rows() {
        SlashKinds x = tongue();
        due("rows of 1 as b", x.rows(1, 0, 1), 2);
        due("rows of 1 as a", x.rows(0, 0, 1), 0);
        due("rows of 1 as b / b", x.rows(4, 0, 1), 1);
        due("rows of 1 as b / b, EMPTY", x.rows(4, 1, 1), 1);
        // (0 or 3) 1.
        due("rows of 2 as a", x.rows(0, 0, 2), 2);
        due("rows of 2 as b", x.rows(1, 0, 2), 2);
        // (0 or 3) 1 (0 or 3); 2 (0 or 3) 1.
        due("rows of 3 as a", x.rows(0, 0, 3), 6);
        due("rows of 3 as b", x.rows(1, 1, 3), 2);
        // N 1 N with one 2 ahead of either N; 2 2 N 1.
        due("rows of 4 as a", x.rows(0, 0, 4), 10);
        due("rows of 4 as b", x.rows(1, 0, 4), 2);
        SlashKinds y = new SlashKinds();
        for (int length = 1; length <= 4; length++) {
            due("rows of WORDS that may be nothing", y.rows(0, 0, length), 0);
        }
        y.word(0, 1);
        y.word(1, 1);
        y.word(2, 1);
        y.word(3, 1);
        due("rows of one ATOM", y.rows(0, 0, 1), 4);
        due("rows of two ATOMS", y.rows(0, 0, 2), 0);
        Check.kind(y, 1, "(a/a)");
        Check.kind(y, 2, "(a\\a)");
        for (int w = 0; w < 4; w++) {
            y.word(w, 7);
        }
        due("all rows of 1", y.rows(0, 0, 1), 4);
        due("all rows of 2", y.rows(0, 0, 2), 16);
        due("all rows of 3", y.rows(0, 0, 3), 64);
        due("all rows of 4", y.rows(0, 0, 4), 256);
        due("all rows of 4 as a / a", y.rows(1, 1, 4), 256);
        Check.kind(y, 3, "(a/(b/b))");
        y.word(0, 1 << 3);
        y.word(1, 0);
        y.word(2, 0);
        y.word(3, 0);
        due("rows of 1, FULL", y.rows(0, 0, 1), 0);
        due("rows of 1, EMPTY", y.rows(0, 1, 1), 1);
    }

    private static void nearest(SlashKinds x, int i, int logic, int changes, int... words) {
        due("near(" + i + ", " + logic + ", -1)", x.near(i, logic, -1), changes);
        for (int k = 0; k < words.length; k++) {
            due("near(" + i + ", " + logic + ", " + k + ")", x.near(i, logic, k), words[k]);
        }
    }

    private static void near() {
        SlashKinds x = tongue();
        nearest(said(x, 0, 1), 0, 0, 0, 0, 1);
        nearest(said(x, 3, 1), 0, 0, 0, 3, 1);
        nearest(said(x, 1, 1), 0, 0, 1, 0, 1);
        nearest(said(x, 0, 0), 0, 0, 1, 0, 1);
        nearest(said(x, 3, 3), 0, 0, 1, 3, 1);
        nearest(said(x, 1, 0), 0, 0, 2, 0, 1);
        nearest(said(x, 2, 2), 0, 0, 2, 0, 1);
        nearest(said(x, 0), 0, 0, NONE, NONE);
        nearest(said(x, 1), 1, 0, 1, 0);
        nearest(said(x, 1, 1, 1), 0, 0, 2, 0, 1, 0);
        nearest(said(x, 3, 1, 1), 0, 0, 1, 3, 1, 0);
        nearest(said(x, 2, 2, 1), 0, 0, 1, 2, 0, 1);
        nearest(said(x, 2, 2, 2, 2), 0, 0, 2, 2, 2, 0, 1);
        nearest(said(x, 3, 1, 3, 3), 0, 0, 1, 3, 1, 2, 3);
        nearest(said(x, 3, 2, 3, 3), 0, 0, 2, 2, 2, 3, 1);
    }

    private static void nearOrder() {
        // Only WORD 3 is what is wanted: four changes of four.
        SlashKinds x = new SlashKinds();
        Check.kind(x, 1, "(a/a)");
        Check.kind(x, 2, "c");
        x.word(0, 1 << 2);
        x.word(3, 1 << 1);
        nearest(said(x, 0, 0, 0, 0), 1, 0, 4, 3, 3, 3, 3);
        nearest(said(x, 0, 3, 0, 3), 1, 0, 2, 3, 3, 3, 3);
        // Fewer changes come ahead of lower numbers, lower numbers ahead of the place of the change.
        x.word(0, 1 << 1);
        x.word(3, 1);
        Check.kind(x, 3, "(a\\a)");
        x.word(2, 1 << 3);
        nearest(said(x, 3, 3), 0, 0, 1, 0, 3);
        nearest(said(x, 3, 0), 0, 0, 1, 3, 2);
        nearest(said(x, 2, 3), 0, 0, 1, 0, 3);
        nearest(said(x, 3, 2), 0, 0, 0, 3, 2);
        nearest(said(x, 2, 0), 0, 0, 2, 0, 3);
        nearest(said(x, 3, 3, 3), 0, 0, 2, 0, 0, 3);
        nearest(said(x, 2, 3, 3), 0, 0, 2, 0, 0, 3);
        nearest(said(x, 3, 3, 2), 0, 0, 1, 0, 3, 2);
        // By EMPTY another row is nearer.
        Check.kind(x, 4, "(a/(c/c))");
        x.word(1, 1 << 4);
        nearest(said(x, 1), 0, 0, 1, 3);
        nearest(said(x, 1), 0, 1, 0, 1);
        nearest(said(x, 0), 0, 1, 1, 1);
        nearest(said(x, 0), 0, 0, 1, 3);
    }

    private static void nearLimits() {
        SlashKinds x = tongue();
        said(x, 0, 1, 0, 0);
        due("four WORDS", x.near(0, 0, -1), 1);
        due("k = 4 of four", x.near(0, 0, 4), BAD);
        due("k = -2", x.near(0, 0, -2), BAD);
        x.say(0);
        due("five WORDS", x.near(0, 0, -1), STATE);
        due("five WORDS, k = 4", x.near(0, 0, 4), STATE);
        due("five WORDS, k = 5", x.near(0, 0, 5), BAD);
        due("five WORDS, KIND 12", x.near(12, 0, 0), BAD);
        x.say(0);
        due("six WORDS", x.near(0, 1, 0), STATE);
        due("six WORDS, logic 2", x.near(0, 2, 0), BAD);
        due("six WORDS, k = -2", x.near(0, 0, -2), BAD);
        due("six WORDS are read", x.reads(0, 0, 0), 0);
    }

    private static void bad() {
        SlashKinds x = tongue();
        said(x, 0, 1);
        for (int i : NO_KINDS) {
            for (int logic = -1; logic <= 2; logic++) {
                due("reads(" + i + ")", x.reads(i, logic, 0), BAD);
                due("first(" + i + ")", x.first(i, logic, 0), BAD);
                due("rows(" + i + ")", x.rows(i, logic, 1), BAD);
                due("near(" + i + ")", x.near(i, logic, -1), BAD);
            }
        }
        for (int logic : NO_LOGICS) {
            due("reads, logic " + logic, x.reads(0, logic, 1), BAD);
            due("first, logic " + logic, x.first(0, logic, 1), BAD);
            due("rows, logic " + logic, x.rows(0, logic, 4), BAD);
            due("near, logic " + logic, x.near(0, logic, 1), BAD);
        }
        for (int odd : new int[] {-2, 2, 3, 7, Integer.MIN_VALUE, Integer.MAX_VALUE}) {
            due("reads, what " + odd, x.reads(0, 0, odd), BAD);
            due("first, k " + odd, x.first(0, 0, odd), BAD);
            due("near, k " + odd, x.near(0, 0, odd), BAD);
        }
        due("reads, what -1", x.reads(0, 0, -1), BAD);
        due("first, k -1", x.first(0, 0, -1), BAD);
        for (int length : new int[] {0, -1, 5, 6, 100, Integer.MIN_VALUE, Integer.MAX_VALUE}) {
            due("rows of " + length, x.rows(0, 0, length), BAD);
        }
        // first of a place that is none, though there is no reading: BAD comes first.
        said(x, 1, 0);
        due("first, k 2 of two", x.first(0, 0, 2), BAD);
        due("first, k 1 of two", x.first(0, 0, 1), NONE);
    }

    private static void count() {
        SlashKinds x = tongue();
        said(x, 0, 1, 2);
        Check.type(x, "abcde");
        x.add(3);
        x.add(1);
        due("KINDS in THE ROW", x.count(0), 2);
        due("WORDS of THE SENTENCE", x.count(1), 3);
        due("bytes of THE TEXT", x.count(2), 5);
        due("ATOMS of THE ROW", x.count(3), 4);
        for (int what : new int[] {-1, 4, 5, 8, Integer.MIN_VALUE, Integer.MAX_VALUE}) {
            due("count(" + what + ")", x.count(what), BAD);
        }
        Check.kind(x, 6, "(((a*a)*(a*a))*((a*a)*((a*a)*((a*a)*(a*a)))))");
        x.wipe();
        for (int n = 1; n <= 8; n++) {
            x.add(6);
            due("ATOMS of big ones", x.count(3), 12 * n);
        }
    }

    private static void nothingChanges() {
        SlashKinds x = tongue();
        said(x, 3, 1, 0);
        x.add(2);
        Check.type(x, "abc");
        for (int times = 0; times < 3; times++) {
            read(x, 0, 2, 2, 2, 2);
            firstOf(x, 0, 0, 1, 3, 1);
            nearest(x, 0, 0, 0, 3, 1, 0);
            due("rows of 3", x.rows(0, 0, 3), 6);
            due("is, in between", x.is(2, 0), 1);
            due("meanings, in between", x.meanings(2, 0), 1);
        }
        due("KINDS in THE ROW", x.count(0), 1);
        due("WORDS of THE SENTENCE", x.count(1), 3);
        due("bytes of THE TEXT", x.count(2), 3);
        due("word 1", x.word(1, 0), 12);
    }
}
