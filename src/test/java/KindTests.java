/** Promises 1 to 8: THE TEXT and the KINDS, with answers told by hand from the document. */
public final class KindTests {
    private static final int BAD = -1;
    private static final int FULL = -3;
    private static final int NONE = -9;
    private static final int NO = -1000000;
    private static final int[] NO_KINDS = {-1, 12, 13, 16, 32, 44, -12, Integer.MIN_VALUE, Integer.MAX_VALUE};

    public static void main(String[] args) {
        newObject();
        twoObjects();
        type();
        typeFull();
        clear();
        readRight();
        readFaults();
        readLimits();
        readBad();
        about();
        aboutBad();
        balance();
        letter();
        alike();
        Check.end("KindTests");
    }

    private static void due(String call, long got, long want) {
        Check.due(call, got, want);
    }

    private static void newObject() {
        SlashKinds x = new SlashKinds();
        for (int what = 0; what <= 3; what++) {
            due("new: count " + what, x.count(what), 0);
        }
        due("new: clear", x.clear(), 0);
        due("new: wipe", x.wipe(), 0);
        due("new: hush", x.hush(), 0);
        for (int i = 0; i < 12; i++) {
            due("new: size " + i, x.about(i, 0), 1);
            due("new: order " + i, x.about(i, 1), 0);
            due("new: goal " + i, x.about(i, 2), 0);
            due("new: letters " + i, x.about(i, 3), 1);
            due("new: letter of " + i, x.letter(i, 0), 1);
            due("new: balance of " + i, x.balance(i, 0), 1);
            due("new: same text " + i, x.alike(0, i, 1), 1);
        }
        for (int w = 0; w < 4; w++) {
            due("new: word " + w, x.word(w, 0), 0);
        }
        due("new: read", x.read(0), -10);
        due("new: is", x.is(0, 1), 0);
        due("new: rows", x.rows(0, 1, 1), 0);
        due("BAD", SlashKinds.BAD, -1);
        due("STATE", SlashKinds.STATE, -2);
        due("FULL", SlashKinds.FULL, -3);
        due("NONE", SlashKinds.NONE, -9);
        due("NO", SlashKinds.NO, -1000000);
    }

    private static void twoObjects() {
        SlashKinds x = new SlashKinds();
        SlashKinds other = new SlashKinds();
        Check.kind(x, 0, "(b/c)");
        x.add(0);
        x.say(1);
        x.word(1, 3);
        Check.type(x, "abc");
        due("other: size", other.about(0, 0), 1);
        due("other: row", other.count(0), 0);
        due("other: sentence", other.count(1), 0);
        due("other: text", other.count(2), 0);
        due("other: word", other.word(1, 0), 0);
        due("one: word", x.word(1, 0), 3);
    }

    private static void type() {
        SlashKinds x = new SlashKinds();
        due("type a byte", x.type('(', 1), 1);
        due("type two bytes", x.type('a' << 8 | '/', 2), 3);
        due("type, higher bytes go unread", x.type(0x7766554433221100L | 'b', 1), 4);
        due("type of a negative number", x.type(0xFFFFFFFFFFFFFF29L, 1), 5);
        due("count of bytes", x.count(2), 5);
        due("read (a/b)", x.read(3), 2);
        due("its goal", x.about(3, 2), 0);
        for (int n : new int[] {0, -1, 9, 10, 64, -8, Integer.MIN_VALUE, Integer.MAX_VALUE}) {
            due("type n = " + n, x.type('a', n), BAD);
        }
        due("nothing was typed", x.count(2), 0);
        due("zero bytes count", x.type(0, 8), 8);
        due("and can't stand", x.read(3), -10);
        x.clear();
        // "((a/b)\c" and ")": eight bytes, the highest first.
        due("type eight bytes", x.type(0x2828612F62295C63L, 8), 8);
        due("type the last one", x.type(')', 1), 9);
        due("read", x.read(4), 3);
        due("goal c", x.about(4, 2), 2);
        due("three bytes with a negative number above", x.type(-1L << 24 | 'a' << 16 | 'a' << 8 | 'a', 3), 3);
        due("a byte behind a whole one", x.read(4), -11);
    }

    private static void typeFull() {
        SlashKinds x = new SlashKinds();
        for (int p = 1; p <= 9; p++) {
            due("type eight", x.type(0, 8), 8 * p);
        }
        due("type seven", x.type(0, 7), 79);
        due("two too many by one", x.type(0, 2), FULL);
        due("nothing came of it", x.count(2), 79);
        due("eight too many", x.type(0, 8), FULL);
        due("the last one", x.type(0, 1), 80);
        due("one more", x.type(0, 1), FULL);
        due("BAD comes ahead of FULL", x.type(0, 0), BAD);
        due("BAD comes ahead of FULL, 9", x.type(0, 9), BAD);
        due("still 80", x.count(2), 80);
        due("read of 80 wrong bytes", x.read(0), -10);
        due("clear 80", x.clear(), 80);
        due("type again", x.type('b', 1), 1);
        due("read b", x.read(0), 1);
        due("goal b", x.about(0, 2), 1);
        for (int p = 1; p <= 10; p++) {
            due("eight again", x.type(0, 8), 8 * p);
        }
        due("eleventh eight", x.type(0, 8), FULL);
    }

    private static void clear() {
        SlashKinds x = new SlashKinds();
        Check.type(x, "(a/b)");
        due("clear", x.clear(), 5);
        due("clear again", x.clear(), 0);
        due("count", x.count(2), 0);
        due("read of nothing", x.read(0), -10);
        Check.kind(x, 1, "(c*d)");
        x.add(1);
        x.say(2);
        x.word(2, 6);
        Check.type(x, "xyz");
        due("clear three", x.clear(), 3);
        due("KIND stays", x.about(1, 0), 2);
        due("row stays", x.count(0), 1);
        due("sentence stays", x.count(1), 1);
        due("word stays", x.word(2, 0), 6);
    }

    private static void readRight() {
        SlashKinds x = new SlashKinds();
        Check.type(x, "h");
        due("read h", x.read(0), 1);
        due("goal h", x.about(0, 2), 7);
        due("THE TEXT is empty then", x.count(2), 0);
        due("other KINDS stay", x.about(1, 2), 0);
        Check.type(x, "(a/b)");
        due("read over", x.read(11), 2);
        due("over: goal", x.about(11, 2), 0);
        Check.type(x, "(a\\b)");
        due("read under", x.read(11), 2);
        due("under: goal", x.about(11, 2), 1);
        Check.type(x, "(a*b)");
        due("read pair", x.read(11), 2);
        due("pair: goal", x.about(11, 2), NONE);
        Check.type(x, "((a/b)\\(c*d))");
        due("read of both sides", x.read(5), 4);
        due("KIND 0 stays", x.about(0, 2), 7);
    }

    private static void fault(SlashKinds x, String text, int fault) {
        x.clear();
        Check.type(x, text);
        due("FAULT of " + text, x.read(7), -10 - fault);
        due("THE TEXT stays: " + text, x.count(2), text.length());
        due("the KIND stays: " + text, x.about(7, 0), 2);
    }

    private static void readFaults() {
        SlashKinds x = new SlashKinds();
        Check.kind(x, 7, "(b/b)");
        String[] ended = {"", "(", "((", "(a", "(a/", "(a\\", "(a*", "(a/b", "((a/b)", "((a/b)*", "((a/b)*c", "(a/(b"};
        for (String text : ended) {
            fault(x, text, text.length());
        }
        fault(x, ")", 0);
        fault(x, "/", 0);
        fault(x, "*", 0);
        fault(x, "\\", 0);
        fault(x, "i", 0);
        fault(x, "`", 0);
        fault(x, "A", 0);
        fault(x, " a", 0);
        fault(x, "\u00e1", 0);
        fault(x, "\u0000", 0);
        fault(x, "()", 1);
        fault(x, "(/a)", 1);
        fault(x, "( a/b)", 1);
        fault(x, "(a)", 2);
        fault(x, "(ab)", 2);
        fault(x, "(a(b/c))", 2);
        fault(x, "(a+b)", 2);
        fault(x, "(a|b)", 2);
        fault(x, "(a /b)", 2);
        fault(x, "(a//b)", 3);
        fault(x, "(a/)", 3);
        fault(x, "(a/*b)", 3);
        fault(x, "(a/i)", 3);
        fault(x, "(a/b/c)", 4);
        fault(x, "(a/b*c)", 4);
        fault(x, "(a/bc)", 4);
        fault(x, "(a/b(", 4);
        fault(x, "((a/b))", 6);
        fault(x, "((a/b)c)", 6);
        fault(x, "aa", 1);
        fault(x, "a)", 1);
        fault(x, "a/b", 1);
        fault(x, "a(", 1);
        fault(x, "a ", 1);
        fault(x, "(a/b))", 5);
        fault(x, "(a/b)a", 5);
        fault(x, "(a/b)/c", 5);
        fault(x, "(a/b)(", 5);
        fault(x, "(a/b)\u0000", 5);
        x.clear();
        Check.type(x, "(a/");
        due("ends too early", x.read(7), -13);
        Check.type(x, "b)");
        due("what stayed is gone on with", x.read(7), 2);
    }

    private static void readLimits() {
        SlashKinds x = new SlashKinds();
        Check.kind(x, 7, "(b/b)");
        String four = "((a/b)*(c\\d))";
        String twelve = "((" + four + "/" + four + ")\\" + four + ")";
        Check.kind(x, 0, twelve);
        due("12 ATOMS", x.about(0, 0), 12);
        String thirteen = "((" + four + "/" + four + ")\\(" + four + "*e))";
        fault(x, thirteen, thirteen.length() - 3);
        fault(x, "(" + twelve + "/a)", twelve.length() + 2);
        // The thirteenth ATOM is what can't stand, not the bracket ahead of it.
        fault(x, "(" + twelve + "/(a/b))", twelve.length() + 3);
        fault(x, "(" + twelve + "/)", twelve.length() + 2);
        fault(x, "(" + twelve, twelve.length() + 1);
        Check.kind(x, 1, "((((((a/b)/c)/d)/e)/f)/g)");
        due("six open", x.about(1, 0), 7);
        Check.kind(x, 2, "(a/(b/(c/(d/(e/(f/g))))))");
        due("six open behind", x.about(2, 1), 6);
        fault(x, "(((((((a/b)/c)/d)/e)/f)/g)/h)", 6);
        fault(x, "(a/(b/(c/(d/(e/(f/(g/h)))))))", 18);
        // Brackets that are closed count no more.
        Check.kind(x, 3, "((((((a/b)/(c/d))/(a/b))/(a/b))/(a/b))/(a/b))");
        due("eleven brackets", x.about(3, 0), 12);
        Check.kind(x, 4, "(((((a/(b/c))/(d/e))/(f/g))/(h/a))/(b/(c/d)))");
        due("twelve ATOMS of many brackets", x.about(4, 0), 12);
    }

    private static void readBad() {
        SlashKinds x = new SlashKinds();
        Check.type(x, "(c/d)");
        for (int i : NO_KINDS) {
            due("read(" + i + ")", x.read(i), BAD);
        }
        due("THE TEXT stays", x.count(2), 5);
        due("read(0)", x.read(0), 2);
        due("BAD ahead of a FAULT", x.read(12), BAD);
    }

    private static void told(SlashKinds x, String text, int order, int goal, int letters) {
        Check.kind(x, 6, text);
        due("order of " + text, x.about(6, 1), order);
        due("goal of " + text, x.about(6, 2), goal);
        due("letters of " + text, x.about(6, 3), letters);
    }

    private static void about() {
        SlashKinds x = new SlashKinds();
        told(x, "c", 0, 2, 1);
        told(x, "(b/c)", 1, 1, 2);
        told(x, "(c\\b)", 1, 1, 2);
        told(x, "(b*c)", 0, NONE, 2);
        told(x, "(b/b)", 1, 1, 0);
        told(x, "(b*b)", 0, NONE, 2);
        told(x, "((a/b)/c)", 1, 0, 3);
        told(x, "(a/(b/c))", 2, 0, 3);
        told(x, "(c\\(b\\a))", 1, 0, 3);
        told(x, "((c\\b)\\a)", 2, 0, 3);
        told(x, "((a/b)*c)", 1, NONE, 3);
        told(x, "(c*(a/b))", 1, NONE, 3);
        told(x, "((a/b)*(c/(d/e)))", 2, NONE, 5);
        told(x, "((c/(d/e))*(a/b))", 2, NONE, 5);
        told(x, "(a/(b*c))", 1, NONE, 3);
        told(x, "((b*c)\\a)", 1, NONE, 3);
        told(x, "((a*b)/c)", 1, NONE, 3);
        told(x, "((a/(b*c))/d)", 1, NONE, 4);
        told(x, "((h/(b/c))/d)", 2, 7, 4);
        told(x, "(d\\((c\\b)\\g))", 2, 6, 4);
        told(x, "((a/b)/(c/(d/e)))", 3, 0, 5);
        told(x, "((a/(b/(c/d)))/e)", 3, 0, 5);
        told(x, "((a/b)*(b\\c))", 1, NONE, 4);
        told(x, "((a/b)*(b/c))", 1, NONE, 2);
        told(x, "((a/b)\\(a/b))", 2, 0, 0);
        told(x, "(b/(a\\b))", 2, 1, 1);
        told(x, "(((a/b)*c)/((a/b)*c))", 2, NONE, 0);
    }

    private static void aboutBad() {
        SlashKinds x = new SlashKinds();
        for (int i : NO_KINDS) {
            for (int what = -1; what <= 4; what++) {
                due("about(" + i + ", " + what + ")", x.about(i, what), BAD);
            }
        }
        for (int what : new int[] {-1, 4, 5, 100, Integer.MIN_VALUE, Integer.MAX_VALUE}) {
            due("about(0, " + what + ")", x.about(0, what), BAD);
        }
    }

    private static void balances(SlashKinds x, String text, int... want) {
        Check.kind(x, 2, text);
        for (int atom = 0; atom < 8; atom++) {
            due("balance of " + text + ", " + atom, x.balance(2, atom), atom < want.length ? want[atom] : 0);
        }
    }

    private static void balance() {
        SlashKinds x = new SlashKinds();
        balances(x, "b", 0, 1);
        balances(x, "h", 0, 0, 0, 0, 0, 0, 0, 1);
        balances(x, "(a/b)", 1, -1);
        balances(x, "(b\\a)", 1, -1);
        balances(x, "(a\\h)", -1, 0, 0, 0, 0, 0, 0, 1);
        balances(x, "(a/h)", 1, 0, 0, 0, 0, 0, 0, -1);
        balances(x, "(a*b)", 1, 1);
        balances(x, "(a*a)", 2);
        balances(x, "(a/a)", 0);
        balances(x, "(a/(b/c))", 1, -1, 1);
        balances(x, "((a/b)/c)", 1, -1, -1);
        balances(x, "((a*b)\\(c*c))", -1, -1, 2);
        balances(x, "((c*(d*e))/(f*(g*h)))", 0, 0, 1, 1, 1, -1, -1, -1);
        String eleven = "(((a*a)*(a*a))*((a*a)*((a*a)*(a*(a*a)))))";
        balances(x, eleven, 11);
        balances(x, "(b/" + eleven + ")", -11, 1);
        balances(x, "(" + eleven + "\\b)", -11, 1);
        balances(x, "(" + eleven + "*h)", 11, 0, 0, 0, 0, 0, 0, 1);
        for (int i : NO_KINDS) {
            due("balance(" + i + ", 0)", x.balance(i, 0), NO);
            due("balance(" + i + ", 8)", x.balance(i, 8), NO);
        }
        for (int atom : new int[] {-1, 8, 9, 64, Integer.MIN_VALUE, Integer.MAX_VALUE}) {
            due("balance(0, " + atom + ")", x.balance(0, atom), NO);
        }
    }

    private static void letters(SlashKinds x, String text, int... want) {
        Check.kind(x, 9, text);
        due("letters left of " + text, x.about(9, 3), want.length);
        for (int k = 0; k < want.length; k++) {
            due("letter " + k + " of " + text, x.letter(9, k), want[k]);
        }
        for (int k : new int[] {want.length, want.length + 1, 11, 12, -1, Integer.MIN_VALUE, Integer.MAX_VALUE}) {
            if (k < 0 || k >= want.length) {
                due("letter " + k + " of " + text, x.letter(9, k), NO);
            }
        }
    }

    private static void letter() {
        SlashKinds x = new SlashKinds();
        letters(x, "a", 1);
        letters(x, "h", 8);
        letters(x, "(a*b)", 1, 2);
        letters(x, "(a/b)", 1, -2);
        letters(x, "(a\\b)", -1, 2);
        letters(x, "(c/(a*b))", 3, -2, -1);
        letters(x, "((a*b)\\c)", -2, -1, 3);
        letters(x, "(c/(a/b))", 3, 2, -1);
        letters(x, "(c/(a\\b))", 3, -2, 1);
        letters(x, "((a\\b)\\c)", -2, 1, 3);
        letters(x, "((a/b)\\c)", 2, -1, 3);
        letters(x, "(a/a)");
        letters(x, "(a\\a)");
        letters(x, "(a*a)", 1, 1);
        letters(x, "(b/(a\\b))", 1);
        letters(x, "((b/a)\\b)", 1);
        letters(x, "(b/(b\\a))", 2, -1, 2);
        letters(x, "((a/b)*(b/c))", 1, -3);
        letters(x, "((a/b)*(c/b))", 1, -2, 3, -2);
        letters(x, "(((a/b)*(b/c))*(c/d))", 1, -4);
        letters(x, "((a/(b*c))*((b*c)/d))", 1, -4);
        letters(x, "((a/(b*c))*(b/d))", 1, -3, -4);
        letters(x, "(((a*b)*(c*d))/((e*f)*(g*h)))", 1, 2, 3, 4, -8, -7, -6, -5);
        letters(x, "(((a*a)*(a*a))*((a*a)*((a*a)*((a*a)*(a*a)))))", 1, 1, 1, 1, 1, 1, 1, 1, 1, 1, 1, 1);
        letters(x, "(((a*a)*(a*a))/((a*a)*((a*a)*((a*a)*(a*a)))))", -1, -1, -1, -1);
        for (int i : NO_KINDS) {
            due("letter(" + i + ", 0)", x.letter(i, 0), NO);
        }
    }

    private static void pair(SlashKinds x, String one, String other, int letters, int text) {
        Check.kind(x, 1, one);
        Check.kind(x, 2, other);
        due(one + " like " + other, x.alike(1, 2, 0), letters);
        due(other + " like " + one, x.alike(2, 1, 0), letters);
        due(one + " same as " + other, x.alike(1, 2, 1), text);
        due(other + " same as " + one, x.alike(2, 1, 1), text);
        due(one + " like itself", x.alike(1, 1, 0), 1);
        due(one + " same as itself", x.alike(1, 1, 1), 1);
    }

    private static void alike() {
        SlashKinds x = new SlashKinds();
        pair(x, "a", "a", 1, 1);
        pair(x, "a", "b", 0, 0);
        pair(x, "(a/b)", "(a/b)", 1, 1);
        pair(x, "(a/b)", "(b\\a)", 0, 0);
        pair(x, "(a/b)", "(a*b)", 0, 0);
        pair(x, "(a/b)", "(a\\b)", 0, 0);
        pair(x, "(a/a)", "(b\\b)", 1, 0);
        pair(x, "(a/a)", "(a\\a)", 1, 0);
        pair(x, "(a*b)", "(b*a)", 0, 0);
        pair(x, "a", "(b/(a\\b))", 1, 0);
        pair(x, "(c\\(a/b))", "((c\\a)/b)", 1, 0);
        pair(x, "((a*b)*c)", "(a*(b*c))", 1, 0);
        pair(x, "((a/b)/c)", "(a/(c*b))", 1, 0);
        pair(x, "((a/b)/c)", "(a/(b*c))", 0, 0);
        pair(x, "(a*b)", "(a*(b*c))", 0, 0);
        pair(x, "((a/b)/c)", "((a/b)/d)", 0, 0);
        pair(x, "((a/b)/c)", "((d/b)/c)", 0, 0);
        for (int bad : NO_KINDS) {
            due("alike(" + bad + ", 0, 0)", x.alike(bad, 0, 0), BAD);
            due("alike(0, " + bad + ", 0)", x.alike(0, bad, 0), BAD);
            due("alike(0, " + bad + ", 1)", x.alike(0, bad, 1), BAD);
            due("alike(" + bad + ", " + bad + ", 1)", x.alike(bad, bad, 1), BAD);
        }
        for (int same : new int[] {-1, 2, 3, Integer.MIN_VALUE, Integer.MAX_VALUE}) {
            due("alike(0, 0, " + same + ")", x.alike(0, 0, same), BAD);
        }
    }
}
