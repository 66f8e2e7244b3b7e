/** Promises 9 to 14: THE ROW and its proofs, with answers told by hand from the document. */
public final class RowTests {
    private static final int BAD = -1;
    private static final int STATE = -2;
    private static final int FULL = -3;
    private static final int[] NO_KINDS = {-1, 12, 13, 16, 32, 44, -12, Integer.MIN_VALUE, Integer.MAX_VALUE};
    private static final int[] NO_LOGICS = {-1, 2, 3, -2, Integer.MIN_VALUE, Integer.MAX_VALUE};

    public static void main(String[] args) {
        add();
        wipe();
        isOfKind();
        emptyRows();
        proofs();
        meanings();
        heads();
        bad();
        proofLimits();
        meaningLimits();
        nothingChanges();
        Check.end("RowTests");
    }

    private static void due(String call, long got, long want) {
        Check.due(call, got, want);
    }

    private static SlashKinds rowOf(String goal, String... row) {
        SlashKinds y = new SlashKinds();
        Check.row(y, row);
        Check.kind(y, 0, goal);
        return y;
    }

    private static String call(String name, String goal, String... row) {
        return name + " of " + String.join(" ", row) + " => " + goal;
    }

    private static void add() {
        SlashKinds y = new SlashKinds();
        Check.kind(y, 3, "(b/c)");
        due("add 3", y.add(3), 1);
        Check.kind(y, 3, "c");
        due("add it once more", y.add(3), 2);
        due("ATOMS of the row", y.count(3), 3);
        Check.kind(y, 3, "h");
        Check.kind(y, 4, "b");
        due("the row has the KINDS as they were", y.is(4, 0), 1);
        for (int i : NO_KINDS) {
            due("add(" + i + ")", y.add(i), BAD);
        }
        due("nothing came", y.count(0), 2);
        for (int n = 3; n <= 8; n++) {
            due("add", y.add(4), n);
        }
        due("add a ninth", y.add(4), FULL);
        due("BAD ahead of FULL", y.add(12), BAD);
        due("BAD ahead of FULL", y.add(-1), BAD);
        due("eight", y.count(0), 8);
        due("ATOMS", y.count(3), 9);
        due("wipe", y.wipe(), 8);
        due("add again", y.add(11), 1);
        due("ATOMS then", y.count(3), 1);
    }

    private static void wipe() {
        SlashKinds y = new SlashKinds();
        due("wipe of none", y.wipe(), 0);
        y.add(0);
        y.add(0);
        y.say(3);
        Check.type(y, "ab");
        due("wipe", y.wipe(), 2);
        due("row", y.count(0), 0);
        due("ATOMS", y.count(3), 0);
        due("text stays", y.count(2), 2);
        due("sentence stays", y.count(1), 1);
        due("wipe again", y.wipe(), 0);
        due("is none of the old ones", y.is(0, 0), 0);
    }

    /** Whether it IS by FULL, and by EMPTY. */
    private static void whether(int full, int empty, String goal, String... row) {
        SlashKinds y = rowOf(goal, row);
        due(call("is, FULL", goal, row), y.is(0, 0), full);
        due(call("is, EMPTY", goal, row), y.is(0, 1), empty);
        due(call("proofs are there, FULL", goal, row), y.proofs(0, 0) > 0 ? 1 : 0, full);
        due(call("proofs are there, EMPTY", goal, row), y.proofs(0, 1) > 0 ? 1 : 0, empty);
    }

    private static void isOfKind() {
        whether(1, 1, "a", "a");
        whether(0, 0, "b", "a");
        whether(0, 0, "a", "a", "a");
        whether(1, 1, "a", "(a/b)", "b");
        whether(0, 0, "a", "b", "(a/b)");
        whether(1, 1, "a", "b", "(b\\a)");
        whether(0, 0, "a", "(b\\a)", "b");
        whether(1, 1, "(a/b)", "(a/b)");
        whether(1, 1, "(b\\a)", "(b\\a)");
        whether(0, 0, "(b\\a)", "(a/b)");
        whether(1, 1, "(b/(a\\b))", "a");
        whether(1, 1, "((b/a)\\b)", "a");
        whether(0, 0, "a", "(b/(a\\b))");
        whether(1, 1, "(a/c)", "(a/b)", "(b/c)");
        whether(0, 0, "(a/c)", "(b/c)", "(a/b)");
        whether(1, 1, "(c\\a)", "(c\\b)", "(b\\a)");
        whether(1, 1, "((a/c)/(b/c))", "(a/b)");
        whether(1, 1, "((a/b)\\(a/c))", "(b/c)");
        whether(1, 1, "(a*b)", "a", "b");
        whether(0, 0, "(b*a)", "a", "b");
        whether(1, 1, "(a*b)", "(a*b)");
        whether(0, 0, "(b*a)", "(a*b)");
        whether(1, 1, "(a*(b*c))", "((a*b)*c)");
        whether(1, 1, "((a*b)*c)", "a", "(b*c)");
        whether(1, 1, "c", "(c/(a*b))", "a", "b");
        whether(1, 1, "((c/b)/a)", "(c/(a*b))");
        whether(1, 1, "(c/(a*b))", "((c/b)/a)");
        whether(0, 0, "(c/(b*a))", "((c/b)/a)");
        whether(1, 1, "((c\\a)/b)", "(c\\(a/b))");
        whether(1, 1, "(c\\(a/b))", "((c\\a)/b)");
        whether(1, 1, "(a/b)", "((a/b)/c)", "c");
        whether(1, 1, "((a*b)/b)", "a");
        whether(1, 1, "(b\\(b*a))", "a");
        whether(1, 1, "a", "((a/b)*b)");
        whether(1, 1, "a", "(b*(b\\a))");
        whether(0, 0, "a", "((b\\a)*b)");
        whether(0, 0, "a", "a", "b");
        whether(0, 0, "(a*b)", "a");
    }

    private static void emptyRows() {
        whether(0, 0, "a");
        whether(0, 1, "(a/a)");
        whether(0, 1, "(a\\a)");
        whether(0, 0, "(a/b)");
        whether(0, 0, "(a*a)");
        whether(0, 1, "((a/a)*(b\\b))");
        whether(0, 0, "((a/a)/(b\\b))");
        whether(0, 1, "((a/a)\\(a/a))");
        whether(0, 1, "((a/a)/(a/a))");
        whether(0, 1, "a", "(a/(b/b))");
        whether(0, 1, "a", "((b\\b)\\a)");
        whether(0, 1, "(a*(b/b))", "a");
        whether(0, 1, "((b/b)*a)", "a");
        whether(0, 1, "(a*(b/b))", "(a/(c\\c))");
        whether(1, 1, "a", "(a/(b/b))", "(b/b)");
        whether(0, 0, "(a/(b/b))", "a", "(c/c)");
        whether(0, 0, "a", "(a/b)");
        whether(0, 0, "a", "(b\\a)");
    }

    private static void countOf(int full, int empty, String goal, String... row) {
        SlashKinds y = rowOf(goal, row);
        due(call("proofs, FULL", goal, row), y.proofs(0, 0), full);
        due(call("proofs, EMPTY", goal, row), y.proofs(0, 1), empty);
        due(call("is, FULL", goal, row), y.is(0, 0), full > 0 ? 1 : 0);
        due(call("is, EMPTY", goal, row), y.is(0, 1), empty > 0 ? 1 : 0);
    }

    private static void proofs() {
        countOf(1, 1, "a", "a");
        countOf(0, 0, "a", "b");
        countOf(0, 0, "a");
        countOf(1, 1, "a", "(a/b)", "b");
        countOf(0, 0, "a", "(a/b)", "c");
        // Which of the two is used first; of three: five trees.
        countOf(2, 2, "a", "(a/b)", "(b/c)", "c");
        countOf(2, 2, "a", "c", "(c\\b)", "(b\\a)");
        countOf(5, 5, "a", "(a/b)", "(b/c)", "(c/d)", "d");
        countOf(5, 5, "a", "d", "(d\\c)", "(c\\b)", "(b\\a)");
        countOf(4, 4, "a", "(a/a)", "a", "(a\\a)");
        countOf(1, 1, "a", "c", "(c\\(a/b))", "b");
        countOf(1, 1, "(a/b)", "(a/b)");
        countOf(1, 1, "(b\\a)", "(b\\a)");
        countOf(2, 2, "(a/c)", "(a/b)", "(b/c)");
        countOf(2, 2, "(a/a)", "(a/a)", "(a/a)");
        // ((a / b) / c) may be used ahead of the rule that makes ( .. / b), or behind it.
        countOf(2, 2, "((a/b)/c)", "((a/b)/c)");
        countOf(2, 2, "(c\\(b\\a))", "(c\\(b\\a))");
        countOf(1, 1, "(b/(a\\b))", "a");
        countOf(1, 1, "((b/a)\\b)", "a");
        countOf(1, 1, "(a*b)", "(a*b)");
        countOf(1, 1, "(a*b)", "a", "b");
        countOf(0, 0, "(a*b)", "b", "a");
        countOf(1, 1, "(a*(b*c))", "((a*b)*c)");
        countOf(1, 1, "((a*b)*c)", "a", "(b*c)");
        // The pair may fall apart ahead of the two parts, or behind them.
        countOf(2, 2, "(a*(b*c))", "a", "(b*c)");
        countOf(2, 2, "((a*b)*c)", "(a*b)", "c");
        countOf(1, 1, "c", "(c/(a*b))", "a", "b");
        countOf(2, 2, "c", "(c/(a*b))", "(a*b)");
        countOf(1, 1, "((c/b)/a)", "(c/(a*b))");
        countOf(1, 1, "(c/(a*b))", "((c/b)/a)");
        countOf(0, 1, "(a/a)");
        countOf(0, 1, "(a\\a)");
        countOf(0, 1, "((a/a)/(a/a))");
        countOf(0, 1, "((a/a)*(b/b))");
        countOf(0, 1, "a", "(a/(b/b))");
        countOf(0, 1, "a", "((b/b)\\a)");
        countOf(0, 1, "(a*(b/b))", "a");
        countOf(1, 1, "a", "(a/(b/b))", "(b/b)");
        countOf(0, 1, "((b/b)*(a*(b/b)))", "a");
        // By EMPTY what is wanted may be made of the row, or of none of it.
        countOf(1, 3, "a", "(a/(a\\a))", "(a\\a)");
    }

    private static void meaningOf(int full, int empty, String goal, String... row) {
        SlashKinds y = rowOf(goal, row);
        due(call("meanings, FULL", goal, row), y.meanings(0, 0), full);
        due(call("meanings, EMPTY", goal, row), y.meanings(0, 1), empty);
    }

    private static void meanings() {
        meaningOf(1, 1, "a", "a");
        meaningOf(0, 0, "a", "b");
        meaningOf(0, 0, "a", "a", "a");
        meaningOf(0, 0, "a");
        meaningOf(1, 1, "a", "(a/b)", "b");
        meaningOf(0, 0, "a", "b", "(a/b)");
        meaningOf(1, 1, "a", "b", "(b\\a)");
        meaningOf(0, 0, "a", "(b\\a)", "b");
        meaningOf(1, 1, "a", "(a/b)", "(b/c)", "c");
        meaningOf(1, 1, "a", "c", "(c\\b)", "(b\\a)");
        meaningOf(1, 1, "a", "(a/b)", "(b/c)", "(c/d)", "d");
        meaningOf(1, 1, "((a/b)/c)", "((a/b)/c)");
        meaningOf(1, 1, "(a/c)", "(a/b)", "(b/c)");
        meaningOf(0, 0, "(a/c)", "(b/c)", "(a/b)");
        meaningOf(1, 1, "(b/(a\\b))", "a");
        meaningOf(1, 1, "((b/a)\\b)", "a");
        meaningOf(0, 0, "a", "(b/(a\\b))");
        meaningOf(1, 1, "((c\\a)/b)", "(c\\(a/b))");
        meaningOf(1, 1, "a", "c", "(c\\(a/b))", "b");
        meaningOf(1, 1, "a", "c", "((c\\a)/b)", "b");
        // n on either side: 2 of 1, 6 of 2, 20 of 3 and 3.
        meaningOf(2, 2, "a", "(a/a)", "a", "(a\\a)");
        meaningOf(6, 6, "a", "(a/a)", "(a/a)", "a", "(a\\a)", "(a\\a)");
        meaningOf(20, 20, "a", "(a/a)", "(a/a)", "(a/a)", "a", "(a\\a)", "(a\\a)", "(a\\a)");
        // What is in the middle of two, three, four like it: trees of two branches.
        meaningOf(2, 2, "a", "a", "((a\\a)/a)", "a", "((a\\a)/a)", "a");
        meaningOf(5, 5, "a", "a", "((a\\a)/a)", "a", "((a\\a)/a)", "a", "((a\\a)/a)", "a");
        meaningOf(0, 1, "(a/a)");
        meaningOf(0, 1, "(a\\a)");
        meaningOf(0, 0, "(a/b)");
        meaningOf(0, 1, "((a/a)/(a/a))");
        meaningOf(0, 1, "a", "(a/(b/b))");
        meaningOf(0, 1, "a", "((b\\b)\\a)");
        meaningOf(1, 1, "a", "(a/(b/b))", "(b/b)");
        meaningOf(1, 2, "a", "(a/(a\\a))", "(a\\a)");
        meaningOf(1, 2, "a", "(a/a)", "((a/a)\\a)");
    }

    private static void headsOf(int full, int empty, String goal, String... row) {
        SlashKinds y = rowOf(goal, row);
        due(call("heads, FULL", goal, row), y.heads(0, 0), full);
        due(call("heads, EMPTY", goal, row), y.heads(0, 1), empty);
    }

    private static void heads() {
        headsOf(1, 1, "a", "a");
        headsOf(1, 1, "h", "h");
        headsOf(0, 0, "a", "b");
        headsOf(0, 0, "a", "a", "a");
        headsOf(0, 0, "a");
        headsOf(1, 1, "a", "(a/b)", "b");
        headsOf(2, 2, "a", "b", "(b\\a)");
        headsOf(2, 2, "a", "c", "(c\\(a/b))", "b");
        headsOf(5, 5, "a", "(a/a)", "a", "(a\\a)");
        headsOf(17, 17, "a", "(a/a)", "(a/a)", "a", "(a\\a)", "(a\\a)");
        headsOf(10, 10, "a", "a", "((a\\a)/a)", "a", "((a\\a)/a)", "a");
        headsOf(42, 42, "a", "a", "((a\\a)/a)", "a", "((a\\a)/a)", "a", "((a\\a)/a)", "a");
        headsOf(1, 3, "a", "(a/(a\\a))", "(a\\a)");
        headsOf(0, 1, "a", "(a/(b/b))");
        // (c / c) has another GOAL: it is no head of a row that is to be a.
        headsOf(1, 1, "a", "(a/c)", "(c/c)", "c");
        headsOf(128, 128, "b", "a", "a", "a", "a", "a", "a", "(a\\(a\\(a\\(a\\(a\\(a\\b))))))", "(b\\b)");
        SlashKinds y = rowOf("(a/b)", "(a/b)");
        due("heads of what is no ATOM, FULL", y.heads(0, 0), STATE);
        due("heads of what is no ATOM, EMPTY", y.heads(0, 1), STATE);
        y = rowOf("(a*b)", "a", "b");
        due("heads of a pair", y.heads(0, 0), STATE);
        y = rowOf("a", "(a*b)");
        due("heads of a row with *", y.heads(0, 0), STATE);
        y = rowOf("a", "(a/(b*b))", "b", "b");
        due("heads of a row with * in what is wanted", y.heads(0, 1), STATE);
    }

    private static void bad() {
        SlashKinds y = rowOf("a", "(a/b)", "b");
        for (int i : NO_KINDS) {
            for (int logic = -1; logic <= 2; logic++) {
                due("is(" + i + ", " + logic + ")", y.is(i, logic), BAD);
                due("proofs(" + i + ", " + logic + ")", y.proofs(i, logic), BAD);
                due("meanings(" + i + ", " + logic + ")", y.meanings(i, logic), BAD);
                due("heads(" + i + ", " + logic + ")", y.heads(i, logic), BAD);
            }
        }
        for (int logic : NO_LOGICS) {
            due("is(0, " + logic + ")", y.is(0, logic), BAD);
            due("proofs(0, " + logic + ")", y.proofs(0, logic), BAD);
            due("meanings(0, " + logic + ")", y.meanings(0, logic), BAD);
            due("heads(0, " + logic + ")", y.heads(0, logic), BAD);
        }
        // BAD ahead of STATE: 18 ATOMS, a *, no ATOM to be.
        Check.row(y, "((a*b)*(c*d))", "((a*b)*(c*d))", "((a*b)*(c*d))", "((a*b)*(c*d))");
        Check.kind(y, 0, "(a*b)");
        due("is, BAD ahead of STATE", y.is(0, 2), BAD);
        due("proofs, BAD ahead of STATE", y.proofs(12, 0), BAD);
        due("meanings, BAD ahead of STATE", y.meanings(0, -1), BAD);
        due("heads, BAD ahead of STATE", y.heads(-1, 0), BAD);
        due("is, STATE", y.is(0, 1), STATE);
        due("proofs, STATE", y.proofs(0, 1), STATE);
        due("meanings, STATE", y.meanings(0, 1), STATE);
        due("heads, STATE", y.heads(0, 1), STATE);
    }

    private static void proofLimits() {
        String five = "(((a/b)/b)/(a/b))";
        SlashKinds y = rowOf(five, five, "b");
        due("11 ATOMS", y.count(3), 6);
        due("11 ATOMS: is", y.is(0, 0), 0);
        y = rowOf("a", "(a/b)", "(b/c)", "(c/d)", "(d/e)", "(e/f)", "f");
        due("12 ATOMS: is", y.is(0, 0), 1);
        due("12 ATOMS: proofs", y.proofs(0, 0), 42);
        due("12 ATOMS: proofs, EMPTY", y.proofs(0, 1), 42);
        due("12 ATOMS: meanings", y.meanings(0, 0), 1);
        Check.kind(y, 0, "(a/a)");
        due("13 ATOMS: is", y.is(0, 0), STATE);
        due("13 ATOMS: proofs", y.proofs(0, 1), STATE);
        y = rowOf("a", "(a/b)", "(b/c)", "(c/d)", "(d/e)", "(e/f)", "(f/f)");
        due("13 ATOMS by the row: is", y.is(0, 1), STATE);
        due("13 ATOMS by the row: proofs", y.proofs(0, 0), STATE);
        y = rowOf("((((((a/a)/a)/a)/a)/a)*(a*(a*(a*(a*(a*a))))))");
        due("12 ATOMS, no row: is", y.is(0, 0), 0);
        due("12 ATOMS, no row: proofs", y.proofs(0, 1), 0);
        y = rowOf("(((a/a)*(b/b))*(((c/c)*(d/d))*((e/e)*(f/f))))");
        due("12 ATOMS, no row: is", y.is(0, 1), 1);
        due("12 ATOMS, no row: proofs, EMPTY", y.proofs(0, 1), 1);
        due("12 ATOMS, no row: proofs, FULL", y.proofs(0, 0), 0);
        y.add(1);
        due("13 ATOMS with one in the row", y.is(0, 1), STATE);
        y = rowOf("((a*b)*((c*d)*e))", "a", "b", "c", "d", "e");
        due("five in pairs", y.proofs(0, 0), 1);
        y = rowOf("a", "a", "a", "a", "a", "a", "a", "a", "a");
        due("eight ATOMS that are no one", y.is(0, 0), 0);
        due("eight ATOMS that are no one: meanings", y.meanings(0, 0), 0);
        due("eight ATOMS that are no one: heads", y.heads(0, 0), 0);
    }

    private static void meaningLimits() {
        SlashKinds y = rowOf("a", "(a/b)", "(b/c)", "(c/d)", "(d/e)", "(e/f)", "(f/g)", "(g/h)", "h");
        due("16 ATOMS: meanings", y.meanings(0, 0), 1);
        due("16 ATOMS: heads", y.heads(0, 1), 1);
        due("16 ATOMS: is", y.is(0, 0), STATE);
        due("16 ATOMS: proofs", y.proofs(0, 0), STATE);
        Check.kind(y, 1, "(a/a)");
        due("17 ATOMS: meanings", y.meanings(1, 0), STATE);
        y = rowOf("a", "(a/b)", "(b/c)", "(c/d)", "(d/e)", "(e/f)", "(f/g)", "(g/h)", "(h/h)");
        due("17 ATOMS by the row: meanings", y.meanings(0, 0), STATE);
        due("17 ATOMS by the row: heads", y.heads(0, 0), STATE);
        y = rowOf("(a/h)", "(a/b)", "(b/c)", "(c/d)", "(d/e)", "(e/f)", "(f/g)", "(g/h)");
        due("16 ATOMS of a longer one", y.meanings(0, 1), 1);
        y = rowOf("((a/b)*c)", "(a/b)", "c");
        due("a * in what it is to be", y.meanings(0, 0), STATE);
        y = rowOf("(a/(b*c))", "(a/b)", "c");
        due("a * in what is wanted of it", y.meanings(0, 1), STATE);
        y = rowOf("a", "((a/b)*b)");
        due("a * in the row", y.meanings(0, 0), STATE);
        y = rowOf("a", "(a/(b*c))", "b", "c");
        due("a * in what the row wants", y.meanings(0, 0), STATE);
        due("which it is", y.is(0, 0), 1);
    }

    private static void nothingChanges() {
        SlashKinds y = rowOf("a", "(a/a)", "a", "(a\\a)");
        Check.type(y, "xy");
        y.say(2);
        for (int logic = 0; logic <= 1; logic++) {
            for (int times = 0; times < 3; times++) {
                due("is again", y.is(0, logic), 1);
                due("proofs again", y.proofs(0, logic), 4);
                due("meanings again", y.meanings(0, logic), 2);
                due("heads again", y.heads(0, logic), 5);
                due("another KIND", y.is(11, logic), 0);
            }
        }
        due("row", y.count(0), 3);
        due("ATOMS", y.count(3), 5);
        due("text", y.count(2), 2);
        due("sentence", y.count(1), 1);
        due("KIND", y.about(0, 0), 1);
    }
}
