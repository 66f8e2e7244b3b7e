import java.util.function.Function;
import java.util.function.ToIntFunction;

/**
 * "Refused, and nothing changes": every refusal that the document names, on objects that hold nothing,
 * something, all they can, and too much for some questions. What an object holds is compared whole with
 * what one holds that was not asked.
 */
public final class RefusalEdges {
    private static final int BAD = -1;
    private static final int STATE = -2;
    private static final int FULL = -3;
    private static final int NO = -1000000;
    private static final int[] NO_KINDS = {-1, 12, 13, 16, Integer.MIN_VALUE, Integer.MAX_VALUE};
    private static final int[] NO_LOGICS = {-1, 2, 3, Integer.MIN_VALUE, Integer.MAX_VALUE};
    private static final int[] NO_WORDS = {-1, 4, 5, Integer.MIN_VALUE, Integer.MAX_VALUE};
    private static final int[] ENDS = {Integer.MIN_VALUE, Integer.MAX_VALUE};

    private static final String[] KINDS = {"a", "(a/b)", "(b/c)", "c", "(c\\b)", "b", "(a*b)", "((b\\a)/c)",
        "(h/(g\\f))", "((e*f)*g)", "(b/b)", "h"};

    public static void main(String[] args) {
        wholeTellsEveryChange();
        for (Held held : Held.values()) {
            numbersThatAreNone(held);
            numbersOfKinds(held);
            numbersOfRows(held);
            numbersOfLists(held);
            faults(held);
        }
        fullText();
        fullRow();
        fullSentence();
        tooManyAtoms();
        starsAndNoAtom();
        tooManyWords();
        Check.end("RefusalEdges");
    }

    /** What an object holds that a call is refused by. */
    private enum Held {
        NOTHING, SOMETHING, ALL, TOO_MUCH;

        SlashKinds make() {
            SlashKinds x = new SlashKinds();
            switch (this) {
                case SOMETHING:
                    Check.row(x, "(a/b)", "(b/c)", "c");
                    fill(x, 0, 1, 2);
                    Check.type(x, "(a/b");
                    break;
                case ALL:
                    Check.row(x, "(a/b)", "(b/c)", "(c/d)", "(d/e)", "(e/f)", "(f/g)", "(g/h)", "h");
                    fill(x, 0, 3, 3, 3, 3, 2);
                    Check.type(x, "a".repeat(80));
                    break;
                case TOO_MUCH:
                    Check.row(x, "((((a/b)/c)/(d/e))/((f/g)/(h/(a/b))))", "(a*b)", "(((a/b)/c)/d)");
                    fill(x, 0, 3, 3, 3, 2);
                    Check.type(x, "((a");
                    break;
                default:
            }
            return x;
        }

        private static void fill(SlashKinds x, int... words) {
            for (int i = 0; i < 12; i++) {
                Check.kind(x, i, KINDS[i]);
            }
            x.word(0, 1 << 1 | 1 << 7 | 1 << 9);
            x.word(1, 1 << 2);
            x.word(2, 1 << 3 | 1 << 5 | 1 << 11);
            x.word(3, 1 << 10 | 1 << 8 | 1 << 6);
            for (int w : words) {
                x.say(w);
            }
        }
    }

    /** What is compared would tell it, if a call changed a little. */
    private static void wholeTellsEveryChange() {
        changed("read", x -> withText(x, "(b\\a)").read(1));
        changed("type", x -> x.type('/', 1));
        changed("clear", x -> x.clear());
        changed("add", x -> x.add(0));
        changed("wipe", x -> x.wipe());
        changed("word", x -> x.word(1, 1 << 3));
        changed("say", x -> x.say(2));
        changed("hush", x -> x.hush());
        changed("another row", x -> x.wipe() + x.add(2) + x.add(1) + x.add(3));
        changed("another sentence", x -> x.hush() + x.say(1) + x.say(0) + x.say(2));
        changed("another text", x -> withText(x, "(a/c").count(2));
        for (int i = 0; i < 12; i++) {
            int at = i;
            changed("KIND " + i, x -> withText(x, "g").read(at));
        }
    }

    private static void changed(String call, ToIntFunction<SlashKinds> asked) {
        SlashKinds x = Held.SOMETHING.make();
        asked.applyAsInt(x);
        Check.holds(call + " changes something", !Whole.of(x).equals(Whole.of(Held.SOMETHING.make())));
    }

    private static void refused(Held held, String call, int answer, ToIntFunction<SlashKinds> asked) {
        refusedBy(x -> x, held, call, answer, asked);
    }

    /** The object is made ready first, as is the one that it is compared with. */
    private static void refusedBy(Function<SlashKinds, SlashKinds> ready, Held held, String call, int answer,
            ToIntFunction<SlashKinds> asked) {
        SlashKinds x = ready.apply(held.make());
        Check.due(call + ", holding " + held, asked.applyAsInt(x), answer);
        Check.holds(call + ", holding " + held + ", changes nothing",
            Whole.of(x).equals(Whole.of(ready.apply(held.make()))));
    }

    // type, about, balance, letter, alike, count: a number is not as told.
    private static void numbersThatAreNone(Held held) {
        for (int n : new int[] {0, 9, -1, 10, -8, Integer.MIN_VALUE, Integer.MAX_VALUE}) {
            refused(held, "type(-1, " + n + ")", BAD, x -> x.type(-1, n));
        }
        for (int what : new int[] {-1, 4, Integer.MIN_VALUE, Integer.MAX_VALUE}) {
            refused(held, "about(0, " + what + ")", BAD, x -> x.about(0, what));
            refused(held, "count(" + what + ")", BAD, x -> x.count(what));
        }
        for (int atom : new int[] {-1, 8, Integer.MIN_VALUE, Integer.MAX_VALUE}) {
            refused(held, "balance(11, " + atom + ")", NO, x -> x.balance(11, atom));
        }
        for (int k : new int[] {-1, 1, Integer.MIN_VALUE, Integer.MAX_VALUE}) {
            refused(held, "letter(0, " + k + ")", NO, x -> x.letter(0, k));
        }
        for (int same : new int[] {-1, 2, Integer.MIN_VALUE, Integer.MAX_VALUE}) {
            refused(held, "alike(0, 1, " + same + ")", BAD, x -> x.alike(0, 1, same));
        }
    }

    // Calls of KINDS: there is no such KIND.
    private static void numbersOfKinds(Held held) {
        for (int i : NO_KINDS) {
            refused(held, "read(" + i + ")", BAD, x -> x.read(i));
            refused(held, "about(" + i + ", 0)", BAD, x -> x.about(i, 0));
            refused(held, "balance(" + i + ", 0)", NO, x -> x.balance(i, 0));
            refused(held, "letter(" + i + ", 0)", NO, x -> x.letter(i, 0));
            refused(held, "alike(" + i + ", 0, 0)", BAD, x -> x.alike(i, 0, 0));
            refused(held, "alike(0, " + i + ", 1)", BAD, x -> x.alike(0, i, 1));
        }
    }

    // Calls of rows: there is no such KIND, no such LOGIC.
    private static void numbersOfRows(Held held) {
        for (int i : NO_KINDS) {
            refused(held, "add(" + i + ")", BAD, x -> x.add(i));
            refused(held, "is(" + i + ", 0)", BAD, x -> x.is(i, 0));
            refused(held, "proofs(" + i + ", 1)", BAD, x -> x.proofs(i, 1));
            refused(held, "meanings(" + i + ", 0)", BAD, x -> x.meanings(i, 0));
            refused(held, "heads(" + i + ", 1)", BAD, x -> x.heads(i, 1));
        }
        for (int logic : NO_LOGICS) {
            refused(held, "is(6, " + logic + ")", BAD, x -> x.is(6, logic));
            refused(held, "proofs(6, " + logic + ")", BAD, x -> x.proofs(6, logic));
            refused(held, "meanings(6, " + logic + ")", BAD, x -> x.meanings(6, logic));
            refused(held, "heads(6, " + logic + ")", BAD, x -> x.heads(6, logic));
        }
    }

    // Calls of lists: there is no such WORD, set, KIND, LOGIC, length, place.
    private static void numbersOfLists(Held held) {
        for (int w : NO_WORDS) {
            refused(held, "word(" + w + ", 1)", BAD, x -> x.word(w, 1));
            refused(held, "say(" + w + ")", BAD, x -> x.say(w));
        }
        for (int set : new int[] {-1, 15, 4095, 4096, 0xF00, 1 << 31, Integer.MAX_VALUE}) {
            refused(held, "word(1, " + set + ")", BAD, x -> x.word(1, set));
        }
        for (int i : NO_KINDS) {
            refused(held, "reads(" + i + ", 0, 0)", BAD, x -> x.reads(i, 0, 0));
            refused(held, "first(" + i + ", 0, 0)", BAD, x -> x.first(i, 0, 0));
            refused(held, "rows(" + i + ", 0, 1)", BAD, x -> x.rows(i, 0, 1));
            refused(held, "near(" + i + ", 0, -1)", BAD, x -> x.near(i, 0, -1));
        }
        for (int logic : NO_LOGICS) {
            refused(held, "reads(0, " + logic + ", 1)", BAD, x -> x.reads(0, logic, 1));
            refused(held, "first(0, " + logic + ", 0)", BAD, x -> x.first(0, logic, 0));
            refused(held, "rows(0, " + logic + ", 4)", BAD, x -> x.rows(0, logic, 4));
            refused(held, "near(0, " + logic + ", -1)", BAD, x -> x.near(0, logic, -1));
        }
        for (int odd : new int[] {-2, 6, Integer.MIN_VALUE, Integer.MAX_VALUE}) {
            refused(held, "reads(0, 0, " + odd + ")", BAD, x -> x.reads(0, 0, odd));
            refused(held, "first(0, 0, " + odd + ")", BAD, x -> x.first(0, 0, odd));
            refused(held, "rows(0, 0, " + odd + ")", BAD, x -> x.rows(0, 0, odd));
            refused(held, "near(0, 0, " + odd + ")", BAD, x -> x.near(0, 0, odd));
        }
        refused(held, "reads(0, 0, -1)", BAD, x -> x.reads(0, 0, -1));
        refused(held, "reads(0, 0, 2)", BAD, x -> x.reads(0, 0, 2));
        refused(held, "first(0, 0, -1)", BAD, x -> x.first(0, 0, -1));
        refused(held, "first behind THE SENTENCE", BAD, x -> x.first(0, 0, x.count(1)));
        refused(held, "near behind THE SENTENCE", BAD, x -> x.near(0, 0, x.count(1)));
        refused(held, "rows(0, 0, 0)", BAD, x -> x.rows(0, 0, 0));
        refused(held, "rows(0, 0, 5)", BAD, x -> x.rows(0, 0, 5));
    }

    // read: "-10 less FAULT: nothing changes".
    private static void faults(Held held) {
        int[] fault = {0, 4, 1, 3};
        for (int i = 0; i < 12; i++) {
            int at = i;
            refused(held, "read(" + i + ")", -10 - fault[held.ordinal()], x -> x.read(at));
        }
        String[] wrong = {")", "(a/b)c", "((((((((a", "(a/b/c)", "(a/(b/(c/(d/(e/(f/(g/h)))))))"};
        int[] places = {0, 5, 6, 4, 18};
        for (int p = 0; p < wrong.length; p++) {
            String text = wrong[p];
            refusedBy(x -> withText(x, text), held, "read of " + text, -10 - places[p], x -> x.read(0));
        }
    }

    private static SlashKinds withText(SlashKinds x, String text) {
        x.clear();
        Check.type(x, text);
        return x;
    }

    // "(80 bytes at most": "FULL".
    private static void fullText() {
        for (int n = 1; n <= 8; n++) {
            int bytes = n;
            refused(Held.ALL, "type(0, " + n + ")", FULL, x -> x.type(0, bytes));
            refusedBy(x -> withText(x, "b".repeat(81 - bytes)), Held.SOMETHING, "type(0, " + n + ") with less room",
                FULL, x -> x.type(0, bytes));
        }
    }

    // "A ROW of KINDS (8 at most": "FULL".
    private static void fullRow() {
        for (int i = 0; i < 12; i++) {
            int at = i;
            refused(Held.ALL, "add(" + i + ")", FULL, x -> x.add(at));
        }
    }

    // "A SENTENCE: WORDS in a row (6 at most": "FULL".
    private static void fullSentence() {
        for (int w = 0; w < 4; w++) {
            int at = w;
            refused(Held.ALL, "say(" + w + ")", FULL, x -> x.say(at));
        }
    }

    // "12 ATOMS together at most; else STATE", "16 ATOMS together at most; else STATE".
    private static void tooManyAtoms() {
        for (int i = 0; i < 12; i++) {
            int at = i;
            for (int logic = 0; logic <= 1; logic++) {
                int by = logic;
                for (Held held : new Held[] {Held.ALL, Held.TOO_MUCH}) {
                    refused(held, "is(" + i + ", " + logic + ")", STATE, x -> x.is(at, by));
                    refused(held, "proofs(" + i + ", " + logic + ")", STATE, x -> x.proofs(at, by));
                }
                refused(Held.TOO_MUCH, "meanings(" + i + ", " + logic + ")", STATE, x -> x.meanings(at, by));
                refused(Held.TOO_MUCH, "heads(" + i + ", " + logic + ")", STATE, x -> x.heads(at, by));
            }
        }
    }

    // "MEANINGS (of KINDS without *, ..; else STATE)", "STATE: the KIND is no ATOM, or as of MEANINGS".
    private static void starsAndNoAtom() {
        for (int logic = 0; logic <= 1; logic++) {
            int by = logic;
            for (int i : new int[] {6, 9}) {
                refused(Held.SOMETHING, "meanings(" + i + ")", STATE, x -> x.meanings(i, by));
                refused(Held.SOMETHING, "heads(" + i + ")", STATE, x -> x.heads(i, by));
            }
            for (int i : new int[] {1, 2, 4, 7, 8, 10}) {
                refused(Held.SOMETHING, "heads(" + i + ")", STATE, x -> x.heads(i, by));
                refused(Held.ALL, "heads(" + i + ")", STATE, x -> x.heads(i, by));
            }
            refusedBy(RefusalEdges::withStar, Held.SOMETHING, "meanings of a *", STATE, x -> x.meanings(0, by));
            refusedBy(RefusalEdges::withStar, Held.SOMETHING, "heads of a *", STATE, x -> x.heads(0, by));
        }
    }

    private static SlashKinds withStar(SlashKinds x) {
        x.add(6);
        return x;
    }

    // near: "STATE: more than 4 WORDS".
    private static void tooManyWords() {
        for (Held held : new Held[] {Held.ALL, Held.TOO_MUCH}) {
            for (int k = -1; k < 5; k++) {
                int at = k;
                refused(held, "near(0, 0, " + k + ")", STATE, x -> x.near(0, 0, at));
                refused(held, "near(6, 1, " + k + ")", STATE, x -> x.near(6, 1, at));
            }
            for (int odd : ENDS) {
                refused(held, "near(0, 0, " + odd + ")", BAD, x -> x.near(0, 0, odd));
            }
        }
        refused(Held.ALL, "near(0, 0, 5)", STATE, x -> x.near(0, 0, 5));
        refused(Held.TOO_MUCH, "near(0, 0, 5)", BAD, x -> x.near(0, 0, 5));
    }
}
