/**
 * The boundary cases of "Terms" 2 and of promises 9 to 14, a test for each sentence that names one, in
 * the document's order. What a refused call leaves as it was is told whole by RefusalEdges.
 */
public final class RowEdges {
    private static final int BAD = -1;
    private static final int STATE = -2;
    private static final int FULL = -3;
    private static final int[] NO_KINDS = {-1, 12, Integer.MIN_VALUE, Integer.MAX_VALUE};
    private static final int[] NO_LOGICS = {-1, 2, Integer.MIN_VALUE, Integer.MAX_VALUE};
    private static final String TWELVE = "(((a/b)*(c\\d))/((e*f)\\((g/h)*((a*b)/(c*d)))))";
    private static final String[] CHAIN_OF_EIGHT =
        {"(a/b)", "(b/c)", "(c/d)", "(d/e)", "(e/f)", "(f/g)", "(g/h)", "h"};

    public static void main(String[] args) {
        eightKindsAtMost();
        emptyAtFirst();
        logicsZeroAndOne();
        kindsZeroToEleven();
        anAtomAloneIsThatAtom();
        overWithItsArgumentBehind();
        underWithItsArgumentAhead();
        pairFallsIntoTwoParts();
        someKindsRightBehind();
        someKindsRightAhead();
        pairInTheRow();
        whatOverWantsIsNotEmpty();
        whatUnderWantsIsNotEmpty();
        whatIsToBeOverIsNotEmpty();
        whatIsToBeUnderIsNotEmpty();
        firstPartIsNotEmpty();
        secondPartIsNotEmpty();
        eachPlaceAndChoiceCounts();
        elevenRulesBehindOneAnother();
        modulusIsFarAbove();
        twelveAtomsTogetherAtMost();
        meaningsOfKindsWithoutStar();
        sixteenAtomsTogetherAtMost();
        onlyByItsOwnRule();
        headHasThatGoal();
        usedUpFromItsOutermostSign();
        atTheEndItHasTheWholeRow();
        headsAreBitsOfPlaces();
        headsOfAnAtomOnly();
        aKindComesAsItIsNow();
        wipeTellsHowMany();
        badAheadOfState();
        Check.end("RowEdges");
    }

    private static void due(String call, long got, long want) {
        Check.due(call, got, want);
    }

    /** KIND 0 is what THE ROW is to be. */
    private static SlashKinds asked(String goal, String... row) {
        SlashKinds x = new SlashKinds();
        Check.row(x, row);
        Check.kind(x, 0, goal);
        return x;
    }

    private static String told(String goal, String... row) {
        return " of " + String.join(" ", row) + " => " + goal;
    }

    private static void proofs(int full, int empty, String goal, String... row) {
        SlashKinds x = asked(goal, row);
        String told = told(goal, row);
        due("is, FULL," + told, x.is(0, 0), full > 0 ? 1 : 0);
        due("is, EMPTY," + told, x.is(0, 1), empty > 0 ? 1 : 0);
        due("proofs, FULL," + told, x.proofs(0, 0), full);
        due("proofs, EMPTY," + told, x.proofs(0, 1), empty);
    }

    private static void meanings(int full, int empty, String goal, String... row) {
        SlashKinds x = asked(goal, row);
        String told = told(goal, row);
        due("meanings, FULL," + told, x.meanings(0, 0), full);
        due("meanings, EMPTY," + told, x.meanings(0, 1), empty);
    }

    private static void heads(int full, int empty, String goal, String... row) {
        SlashKinds x = asked(goal, row);
        String told = told(goal, row);
        due("heads, FULL," + told, x.heads(0, 0), full);
        due("heads, EMPTY," + told, x.heads(0, 1), empty);
    }

    /** IS and PROOFS are asked where they may be, or not. */
    private static void proofsAsked(boolean may, String goal, String... row) {
        SlashKinds x = asked(goal, row);
        for (int logic = 0; logic <= 1; logic++) {
            String told = told(goal, row) + " by " + logic;
            due("is STATE" + told, x.is(0, logic) == STATE ? 1 : 0, may ? 0 : 1);
            due("proofs STATE" + told, x.proofs(0, logic) == STATE ? 1 : 0, may ? 0 : 1);
        }
    }

    private static void meaningsAsked(boolean may, String goal, String... row) {
        SlashKinds x = asked(goal, row);
        boolean atom = goal.length() == 1;
        for (int logic = 0; logic <= 1; logic++) {
            String told = told(goal, row) + " by " + logic;
            due("meanings STATE" + told, x.meanings(0, logic) == STATE ? 1 : 0, may ? 0 : 1);
            due("heads STATE" + told, x.heads(0, logic) == STATE ? 1 : 0, may && atom ? 0 : 1);
        }
    }

    // "A ROW of KINDS (8 at most"; add: "how many it has. BAD; FULL".
    private static void eightKindsAtMost() {
        SlashKinds x = new SlashKinds();
        for (int p = 1; p <= 8; p++) {
            Check.kind(x, p % 12, CHAIN_OF_EIGHT[p - 1]);
            due("add, " + p, x.add(p), p);
        }
        due("the eighth is there", x.meanings(0, 0), 1);
        due("add a ninth", x.add(0), FULL);
        due("add a ninth that is told so", x.add(11), FULL);
        due("eight", x.count(0), 8);
        due("ATOMS", x.count(3), 15);
        due("MEANINGS as they were", x.meanings(0, 0), 1);
        for (int i : NO_KINDS) {
            due("BAD ahead of FULL, " + i, x.add(i), BAD);
        }
        due("wipe", x.wipe(), 8);
        due("add then", x.add(0), 1);
        due("IS then", x.is(0, 0), 1);
    }

    // "empty at first".
    private static void emptyAtFirst() {
        SlashKinds x = new SlashKinds();
        due("KINDS", x.count(0), 0);
        due("ATOMS", x.count(3), 0);
        for (int logic = 0; logic <= 1; logic++) {
            due("is", x.is(0, logic), 0);
            due("proofs", x.proofs(0, logic), 0);
            due("meanings", x.meanings(0, logic), 0);
            due("heads", x.heads(0, logic), 0);
        }
        Check.kind(x, 0, "(a/a)");
        due("an empty row is no (a / a) by FULL", x.is(0, 0), 0);
        due("it is by EMPTY", x.is(0, 1), 1);
    }

    // "by a LOGIC (0 FULL, 1 EMPTY)"; "BAD".
    private static void logicsZeroAndOne() {
        SlashKinds x = asked("a", "(a/(b/b))");
        due("is 0", x.is(0, 0), 0);
        due("is 1", x.is(0, 1), 1);
        due("proofs 0", x.proofs(0, 0), 0);
        due("proofs 1", x.proofs(0, 1), 1);
        due("meanings 0", x.meanings(0, 0), 0);
        due("meanings 1", x.meanings(0, 1), 1);
        due("heads 0", x.heads(0, 0), 0);
        due("heads 1", x.heads(0, 1), 1);
        for (int logic : NO_LOGICS) {
            due("is " + logic, x.is(0, logic), BAD);
            due("proofs " + logic, x.proofs(0, logic), BAD);
            due("meanings " + logic, x.meanings(0, logic), BAD);
            due("heads " + logic, x.heads(0, logic), BAD);
        }
    }

    // "KINDS 0 .. 11"; "BAD (.. there is no such thing)".
    private static void kindsZeroToEleven() {
        SlashKinds x = new SlashKinds();
        due("add 0", x.add(0), 1);
        due("wipe", x.wipe(), 1);
        due("add 11", x.add(11), 1);
        for (int i : new int[] {0, 11}) {
            due("is " + i, x.is(i, 0), 1);
            due("proofs " + i, x.proofs(i, 0), 1);
            due("meanings " + i, x.meanings(i, 0), 1);
            due("heads " + i, x.heads(i, 0), 1);
        }
        for (int i : NO_KINDS) {
            due("add " + i, x.add(i), BAD);
            due("is " + i, x.is(i, 0), BAD);
            due("proofs " + i, x.proofs(i, 0), BAD);
            due("meanings " + i, x.meanings(i, 0), BAD);
            due("heads " + i, x.heads(i, 0), BAD);
        }
        due("one KIND", x.count(0), 1);
    }

    // "an ATOM alone is that ATOM".
    private static void anAtomAloneIsThatAtom() {
        proofs(1, 1, "a", "a");
        proofs(1, 1, "h", "h");
        proofs(0, 0, "a", "b");
        proofs(0, 0, "b", "a");
        proofs(0, 0, "a", "a", "a");
        proofs(0, 0, "a", "a", "b");
        proofs(0, 0, "a");
        proofs(0, 0, "a", "(a/a)");
        meanings(1, 1, "h", "h");
        meanings(0, 0, "a", "b");
        meanings(0, 0, "a", "a", "a");
        meanings(0, 0, "a");
    }

    // "a row is X / Y, if the row with Y behind it is X".
    private static void overWithItsArgumentBehind() {
        proofs(1, 1, "(b/(a\\b))", "a");
        proofs(0, 0, "(b/(b/a))", "a");
        proofs(1, 1, "((a/c)/b)", "(a/(b*c))");
        proofs(0, 0, "((a/b)/c)", "(a/(b*c))");
        meanings(1, 1, "(b/(a\\b))", "a");
        meanings(0, 0, "(b/(b/a))", "a");
        // What comes behind, comes behind eight KINDS too, though no row is told that long.
        proofs(0, 0, "(((a/b)/c)/d)", "a", "b", "c", "d", "e", "f", "g", "h");
        meanings(1, 1, "(a/h)", "(a/b)", "(b/c)", "(c/d)", "(d/e)", "(e/f)", "(f/g)", "(g/h)");
        meanings(0, 0, "(a/g)", "(a/b)", "(b/c)", "(c/d)", "(d/e)", "(e/f)", "(f/g)", "(g/h)");
        meanings(0, 0, "((a/a)/a)", "a", "a", "a", "a", "a", "a", "a", "a");
    }

    // "it is Y \ X, if the row with Y ahead of it is X".
    private static void underWithItsArgumentAhead() {
        proofs(1, 1, "((b/a)\\b)", "a");
        proofs(0, 0, "((a\\b)\\b)", "a");
        proofs(1, 1, "(c\\(b\\a))", "((b*c)\\a)");
        proofs(0, 0, "(b\\(c\\a))", "((b*c)\\a)");
        meanings(1, 1, "((b/a)\\b)", "a");
        meanings(0, 0, "((a\\b)\\b)", "a");
        proofs(0, 0, "(b\\(c\\(d\\a)))", "a", "b", "c", "d", "e", "f", "g", "h");
        meanings(1, 1, "(h\\a)", "(h\\g)", "(g\\f)", "(f\\e)", "(e\\d)", "(d\\c)", "(c\\b)", "(b\\a)");
        meanings(0, 0, "(g\\a)", "(h\\g)", "(g\\f)", "(f\\e)", "(e\\d)", "(d\\c)", "(c\\b)", "(b\\a)");
    }

    // "it is X * Y, if it falls into a first part that is X and a second part that is Y".
    private static void pairFallsIntoTwoParts() {
        proofs(1, 1, "(a*b)", "a", "b");
        proofs(0, 0, "(a*b)", "b", "a");
        proofs(0, 0, "(a*b)", "a");
        proofs(0, 0, "(a*b)", "b");
        proofs(0, 0, "(a*b)", "a", "c", "b");
        // The first part as short as can be, as long as can be.
        proofs(1, 1, "(a*(b*(c*(d*e))))", "a", "b", "c", "d", "e");
        proofs(1, 1, "((((a*b)*c)*d)*e)", "a", "b", "c", "d", "e");
        proofs(1, 1, "(a*(b*(c*(d*(e*f)))))", "a", "b", "c", "d", "e", "f");
        proofs(0, 0, "(a*(b*(c*d)))", "a", "b", "c", "d", "e", "f", "g", "h");
    }

    // "a row with X / Y in it is Z, if some KINDS right behind that one are Y, and ..".
    private static void someKindsRightBehind() {
        proofs(1, 1, "a", "(a/b)", "b");
        proofs(0, 0, "a", "(a/b)");
        proofs(0, 0, "a", "b", "(a/b)");
        // One, two, all to the end; none further off, none left over.
        proofs(1, 1, "a", "(a/(b*c))", "b", "c");
        proofs(1, 1, "a", "(a/(b*(c*(d*e))))", "b", "c", "d", "e");
        proofs(0, 0, "a", "(a/b)", "c", "b");
        proofs(0, 0, "a", "(a/b)", "b", "c");
        proofs(0, 0, "a", "(a/(b*c))", "b");
        proofs(2, 2, "(a*c)", "(a/b)", "b", "c");
        meanings(1, 1, "a", "(a/b)", "b");
        meanings(0, 0, "a", "(a/b)");
        meanings(0, 0, "a", "b", "(a/b)");
        meanings(1, 1, "a", "((a/b)/c)", "c", "b");
        meanings(0, 0, "a", "((a/b)/c)", "b", "c");
    }

    // "with Y \ X: some right ahead of it are Y, likewise".
    private static void someKindsRightAhead() {
        proofs(1, 1, "a", "b", "(b\\a)");
        proofs(0, 0, "a", "(b\\a)");
        proofs(0, 0, "a", "(b\\a)", "b");
        proofs(1, 1, "a", "b", "c", "((b*c)\\a)");
        proofs(1, 1, "a", "b", "c", "d", "e", "((b*(c*(d*e)))\\a)");
        proofs(0, 0, "a", "b", "c", "(b\\a)");
        proofs(0, 0, "a", "c", "b", "(b\\a)");
        proofs(0, 0, "a", "c", "((b*c)\\a)");
        proofs(2, 2, "(c*a)", "c", "b", "(b\\a)");
        meanings(1, 1, "a", "b", "(b\\a)");
        meanings(0, 0, "a", "(b\\a)");
        meanings(0, 0, "a", "(b\\a)", "b");
        meanings(1, 1, "a", "b", "c", "(c\\(b\\a))");
        meanings(0, 0, "a", "c", "b", "(c\\(b\\a))");
    }

    // "with X * Y: if the row with X, Y in place of it is Z".
    private static void pairInTheRow() {
        proofs(1, 1, "(a*b)", "(a*b)");
        proofs(0, 0, "(b*a)", "(a*b)");
        proofs(0, 0, "a", "(a*b)");
        // At the first place, at the last one, between others.
        proofs(1, 1, "(a*(b*c))", "(a*b)", "c");
        proofs(1, 1, "((a*b)*c)", "a", "(b*c)");
        proofs(1, 1, "((a*b)*(c*d))", "a", "(b*c)", "d");
        proofs(0, 0, "((a*b)*(c*d))", "a", "(c*b)", "d");
        proofs(1, 1, "a", "((a/b)*b)");
        proofs(0, 0, "a", "(b*(a/b))");
        // Six KINDS come of one.
        proofs(1, 1, "(((((a*b)*c)*d)*e)*f)", "(a*(b*(c*(d*(e*f)))))");
        proofs(0, 0, "(((((a*b)*c)*d)*f)*e)", "(a*(b*(c*(d*(e*f)))))");
    }

    // "By FULL none of these rows is empty (that which is to be Y has one KIND at least": of X / Y.
    private static void whatOverWantsIsNotEmpty() {
        proofs(0, 1, "a", "(a/(b/b))");
        proofs(1, 1, "a", "(a/(b/b))", "(b/b)");
        // In the middle of a row; ahead of the other use, or behind it.
        proofs(0, 2, "c", "(a/(b/b))", "(a\\c)");
        meanings(0, 1, "a", "(a/(b/b))");
        meanings(1, 1, "a", "(a/(b/b))", "(b/b)");
        meanings(0, 1, "c", "(a/(b/b))", "(a\\c)");
        heads(0, 1, "a", "(a/(b/b))");
        heads(1, 1, "a", "(a/(b/b))", "(b/b)");
        heads(0, 2, "c", "(a/(b/b))", "(a\\c)");
    }

    // The same of Y \ X.
    private static void whatUnderWantsIsNotEmpty() {
        proofs(0, 1, "a", "((b/b)\\a)");
        proofs(1, 1, "a", "(b/b)", "((b/b)\\a)");
        proofs(0, 2, "c", "(c/a)", "((b/b)\\a)");
        meanings(0, 1, "a", "((b/b)\\a)");
        meanings(1, 1, "a", "(b/b)", "((b/b)\\a)");
        meanings(0, 1, "c", "(c/a)", "((b/b)\\a)");
        heads(0, 1, "a", "((b/b)\\a)");
        heads(2, 2, "a", "(b/b)", "((b/b)\\a)");
        heads(0, 1, "c", "(c/a)", "((b/b)\\a)");
    }

    // "so has what is to be X / Y".
    private static void whatIsToBeOverIsNotEmpty() {
        proofs(0, 1, "(a/a)");
        proofs(1, 1, "(a/a)", "(a/a)");
        proofs(0, 1, "((a/a)/(a/a))");
        proofs(0, 0, "(a/b)");
        meanings(0, 1, "(a/a)");
        meanings(1, 1, "(a/a)", "(a/a)");
        meanings(0, 1, "((a/a)/(a/a))");
        meanings(0, 0, "(a/b)");
    }

    // "so has what is to be .. Y \ X".
    private static void whatIsToBeUnderIsNotEmpty() {
        proofs(0, 1, "(a\\a)");
        proofs(1, 1, "(a\\a)", "(a\\a)");
        proofs(0, 1, "((a\\a)\\(a\\a))");
        proofs(0, 0, "(b\\a)");
        meanings(0, 1, "(a\\a)");
        meanings(1, 1, "(a\\a)", "(a\\a)");
        meanings(0, 1, "((a\\a)\\(a\\a))");
        meanings(0, 0, "(b\\a)");
    }

    // "so has .. both parts of X * Y": the first.
    private static void firstPartIsNotEmpty() {
        proofs(0, 1, "((b/b)*a)", "a");
        proofs(0, 1, "((b\\b)*a)", "a");
        proofs(1, 1, "((b/b)*a)", "(b/b)", "a");
        proofs(0, 1, "((a/a)*(b/b))");
    }

    // "so has .. both parts of X * Y": the second.
    private static void secondPartIsNotEmpty() {
        proofs(0, 1, "(a*(b/b))", "a");
        proofs(0, 1, "(a*(b\\b))", "a");
        proofs(1, 1, "(a*(b/b))", "a", "(b/b)");
        proofs(0, 1, "((a\\a)*(b\\b))");
    }

    // "each choice of a rule, of the KIND in the row by its place, of a part, counts; ways of both parts are multiplied".
    private static void eachPlaceAndChoiceCounts() {
        // One rule alone, then the choice which one comes first.
        proofs(1, 1, "(a/b)", "(a/b)");
        proofs(2, 2, "((a/b)/c)", "((a/b)/c)");
        // The same KIND at two places is two ways, at three places five.
        proofs(1, 1, "a", "(a/a)", "a");
        proofs(2, 2, "a", "(a/a)", "(a/a)", "a");
        proofs(5, 5, "a", "(a/a)", "(a/a)", "(a/a)", "a");
        // Two cuts, by EMPTY four: 1 * 2 + 2 * 1, and 5 + 5 with an empty part.
        proofs(4, 14, "((a/a)*(a/a))", "(a/a)", "(a/a)", "(a/a)");
        // 1 * 5 + 2 * 2 + 5 * 1, and 14 + 14.
        proofs(14, 42, "((a/a)*(a/a))", "(a/a)", "(a/a)", "(a/a)", "(a/a)");
    }

    // The longest ways: eleven rules, each behind the other, for 12 ATOMS in one KIND, six brackets deep.
    private static void elevenRulesBehindOneAnother() {
        proofs(0, 42, "((((((a/f)/(e/f))/(d/e))/(c/d))/(b/c))/(a/b))");
        proofs(0, 42, "((b\\a)\\((c\\b)\\((d\\c)\\((e\\d)\\((f\\e)\\(f\\a))))))");
        String behind = "(a*(b*(c*(d*(e*f)))))";
        String ahead = "(((((a*b)*c)*d)*e)*f)";
        proofs(0, 1, "(" + ahead + "/" + behind + ")");
        proofs(0, 1, "(" + ahead + "\\" + behind + ")");
        proofs(1, 1, ahead, behind);
        proofs(1, 1, behind, ahead);
        meanings(0, 1, "((((((a/f)/(e/f))/(d/e))/(c/d))/(b/c))/(a/b))");
        meanings(0, 1, "((b\\a)\\((c\\b)\\((d\\c)\\((e\\d)\\((f\\e)\\(f\\a))))))");
        meanings(1, 1, "((((((a/g)/(f/g))/(e/f))/(d/e))/(c/d))/(b/c))", "(a/b)");
        meanings(1, 1, "(a/(b/(c/(d/(e/(f/g))))))", "(a/(b/(c/(d/(e/(f/g))))))");
        meanings(1, 1, "((((((g\\f)\\e)\\d)\\c)\\b)\\a)", "((((((g\\f)\\e)\\d)\\c)\\b)\\a)");
    }

    // "modulo 1000000007". No number comes so far: rules take away ten signs in an order of their own
    // behind the first, and letters pair in 132 ways, so PROOFS are 132 * 10! = 479001600 at most.
    private static void modulusIsFarAbove() {
        String five = "(((a/a)*a)*(a\\a))";
        String four = "((a\\a)*(a\\a))";
        proofs(11848, 11848, "((a/a)\\a)", five, four);
        proofs(15457, 15457, "((a/a)\\a)", "(" + five + "*" + four + ")");
        proofs(0, 15457, "((" + five + "*" + four + ")\\((a/a)\\a))");
        meanings(20, 20, "a", "(a/a)", "(a/a)", "(a/a)", "a", "(a\\a)", "(a\\a)", "(a\\a)");
        meanings(35, 35, "a", "(a/a)", "(a/a)", "(a/a)", "(a/a)", "a", "(a\\a)", "(a\\a)", "(a\\a)");
    }

    // "(Asked, as IS is, where the row and the KIND have 12 ATOMS together at most; else STATE.)".
    private static void twelveAtomsTogetherAtMost() {
        String eleven = "(((a/b)*(c\\d))/((e*f)\\((g/h)*(a*(b/c)))))";
        proofsAsked(true, TWELVE);
        proofsAsked(false, TWELVE, "a");
        proofsAsked(true, "a", eleven);
        proofsAsked(false, "a", TWELVE);
        proofsAsked(false, "(a/a)", eleven);
        proofsAsked(true, eleven, "a");
        proofsAsked(false, eleven, "a", "a");
        proofsAsked(true, "((a*b)*(c*d))", "a", "a", "a", "a", "a", "a", "a", "a");
        proofsAsked(false, "((a*b)*(c*(d*e)))", "a", "a", "a", "a", "a", "a", "a", "a");
        proofsAsked(true, "a", "(a/a)", "(a/a)", "(a/a)", "a", "a", "a", "a", "a");
        proofsAsked(false, "a", "(a/a)", "(a/a)", "(a/a)", "(a/a)", "a", "a", "a", "a");
        proofsAsked(false, "a", TWELVE, TWELVE, TWELVE, TWELVE, TWELVE, TWELVE, TWELVE, TWELVE);
        // What 12 ATOMS are told, with six, five, one KIND and none.
        proofs(42, 42, "a", "(a/b)", "(b/c)", "(c/d)", "(d/e)", "(e/f)", "f");
        proofs(42, 42, "a", "f", "(f\\e)", "(e\\d)", "(d\\c)", "(c\\b)", "(b\\a)");
        proofs(42, 42, "(a/f)", "(a/b)", "(b/c)", "(c/d)", "(d/e)", "(e/f)");
        proofs(0, 1, "(((a/a)*(b/b))*(((c/c)*(d/d))*((e/e)*(f/f))))");
    }

    // "(of KINDS without *, ..; else STATE)".
    private static void meaningsOfKindsWithoutStar() {
        meaningsAsked(true, "a", "a");
        meaningsAsked(false, "(a*a)");
        meaningsAsked(false, "(a*a)", "a", "a");
        meaningsAsked(false, "(a/(b*c))", "a");
        meaningsAsked(false, "((b*c)\\a)", "a");
        meaningsAsked(false, "((a*b)/c)", "a");
        meaningsAsked(false, "a", "(a*a)");
        meaningsAsked(false, "a", "(a*b)", "a");
        meaningsAsked(false, "a", "b", "b", "b", "b", "b", "b", "b", "(a*a)");
        meaningsAsked(false, "a", "(a/(b*c))", "b", "c");
        meaningsAsked(false, "a", "b", "c", "((b*c)\\a)");
        meaningsAsked(false, "a", "((a*b)/b)", "b");
        // A * elsewhere is no matter.
        SlashKinds x = asked("a", "(a/b)", "b");
        Check.kind(x, 7, "(a*b)");
        due("meanings, a * in another KIND", x.meanings(0, 0), 1);
        due("heads, a * in another KIND", x.heads(0, 0), 1);
        due("meanings of the other one", x.meanings(7, 0), STATE);
        due("heads of the other one", x.heads(7, 0), STATE);
        x.add(7);
        due("meanings then", x.meanings(0, 0), STATE);
        due("heads then", x.heads(0, 0), STATE);
        x.wipe();
        due("meanings of none", x.meanings(0, 0), 0);
    }

    // "(.. 16 ATOMS together at most; else STATE)".
    private static void sixteenAtomsTogetherAtMost() {
        String twelve = "(((a/b)/(c\\d))/((e/f)\\((g/h)/((a/b)/(c/d)))))";
        meaningsAsked(true, "a", CHAIN_OF_EIGHT);
        meaningsAsked(false, "(a/a)", CHAIN_OF_EIGHT);
        meaningsAsked(false, "a", "(a/b)", "(b/c)", "(c/d)", "(d/e)", "(e/f)", "(f/g)", "(g/h)", "(h/h)");
        meaningsAsked(true, twelve);
        meaningsAsked(true, twelve, "(a/b)", "(a/b)");
        meaningsAsked(false, twelve, "(a/b)", "((a/b)/c)");
        meaningsAsked(true, "((a/b)/(c/d))", twelve);
        meaningsAsked(false, "((a/b)/(c/(d/e)))", twelve);
        meaningsAsked(true, "a", twelve, "((a/b)/c)");
        meaningsAsked(false, "a", twelve, "(a/b)", "(c/d)");
        meaningsAsked(true, "((a/b)/(c/(d/(e/(f/(g/h))))))", "a", "a", "a", "a", "a", "a", "a", "a");
        meaningsAsked(false, "((a/b)/(c/(d/(e/(f/(g/h))))))", "a", "a", "a", "a", "a", "a", "a", "(a/a)");
        meaningsAsked(false, "a", twelve, twelve, twelve, twelve, twelve, twelve, twelve, twelve);
        // What 16 ATOMS are told, with one KIND of eight in the row, with eight KINDS.
        String eight = "((h\\a)/(b/(c/(d/(e/(f/g))))))";
        meanings(1, 1, eight, eight);
        meanings(1, 1, "a", CHAIN_OF_EIGHT);
        heads(1, 1, "a", CHAIN_OF_EIGHT);
        meanings(0, 0, "b", CHAIN_OF_EIGHT);
    }

    // "to be X / Y, Y \ X only by its own rule".
    private static void onlyByItsOwnRule() {
        proofs(2, 2, "((a/b)/c)", "((a/b)/c)");
        meanings(1, 1, "((a/b)/c)", "((a/b)/c)");
        proofs(2, 2, "(a/b)", "((a/b)/c)", "c");
        meanings(1, 1, "(a/b)", "((a/b)/c)", "c");
        meanings(1, 1, "(b\\a)", "c", "(c\\(b\\a))");
    }

    // "to be an ATOM only by one KIND of the row with that GOAL, the HEAD".
    private static void headHasThatGoal() {
        heads(1, 1, "a", "(a/c)", "(c/c)", "c");
        heads(0, 0, "c", "(a/c)", "(c/c)", "c");
        heads(4, 4, "a", "c", "(c\\c)", "(c\\a)");
        heads(1, 1, "c", "(c/a)", "a");
        heads(2, 2, "c", "a", "(a\\c)");
        heads(0, 0, "a", "b");
        meanings(0, 0, "a", "b");
    }

    // "used up from its outermost sign on: .. some KINDS right behind what it has by now .., some right ahead".
    private static void usedUpFromItsOutermostSign() {
        meanings(1, 1, "a", "((a/b)/c)", "c", "b");
        meanings(0, 0, "a", "((a/b)/c)", "b", "c");
        meanings(1, 1, "a", "b", "c", "(c\\(b\\a))");
        meanings(0, 0, "a", "c", "b", "(c\\(b\\a))");
        meanings(1, 1, "a", "c", "(c\\(a/b))", "b");
        meanings(1, 1, "a", "c", "((c\\a)/b)", "b");
        meanings(0, 0, "a", "b", "(c\\(a/b))", "c");
        meanings(0, 0, "a", "b", "((c\\a)/b)", "c");
        // Both signs in turn, two on each side.
        meanings(1, 1, "a", "b", "c", "(c\\(((b\\a)/e)/d))", "d", "e");
        meanings(0, 0, "a", "b", "c", "(c\\(((b\\a)/e)/d))", "e", "d");
    }

    // "at the end it has the whole row".
    private static void atTheEndItHasTheWholeRow() {
        meanings(1, 1, "a", "(a/b)", "b");
        meanings(0, 0, "a", "(a/b)", "b", "(c/c)");
        meanings(0, 0, "a", "(c/c)", "(a/b)", "b");
        meanings(0, 0, "a", "(a/b)", "(c/c)", "b");
        meanings(0, 0, "a", "a", "(c/c)");
        meanings(0, 0, "a", "(c/c)", "a");
        heads(0, 0, "a", "(a/b)", "b", "(c/c)");
        heads(0, 0, "a", "(c/c)", "(a/b)", "b");
        proofs(0, 0, "a", "a", "(c/c)");
        proofs(0, 0, "a", "(c/c)", "a");
    }

    // heads: "of a row that is to be an ATOM, which places can be HEAD in some MEANING (bits)".
    private static void headsAreBitsOfPlaces() {
        heads(0, 0, "a");
        heads(1, 1, "a", "a");
        heads(1, 1, "a", CHAIN_OF_EIGHT);
        heads(128, 128, "a", "h", "(h\\g)", "(g\\f)", "(f\\e)", "(e\\d)", "(d\\c)", "(c\\b)", "(b\\a)");
        heads(129, 129, "a", "(a/a)", "(a/a)", "(a/a)", "(a/a)", "a", "(a\\a)", "(a\\a)", "(a\\a)");
        heads(64, 64, "a", "h", "(h\\g)", "(g\\f)", "(f\\e)", "(e\\d)", "(d\\c)", "((c\\a)/b)", "b");
        // Places that can be none in a MEANING have the GOAL too.
        heads(0, 0, "a", "a", "a");
        heads(1, 1, "a", "(a/a)", "a");
    }

    // heads: "STATE: the KIND is no ATOM, or as of MEANINGS".
    private static void headsOfAnAtomOnly() {
        for (String goal : new String[] {"(a/a)", "(a\\a)", "(a*a)", "((a/b)/c)", TWELVE}) {
            for (String[] row : new String[][] {{}, {"a"}, {goal}}) {
                SlashKinds x = asked(goal, row);
                due("heads," + told(goal, row), x.heads(0, 0), STATE);
                due("heads, EMPTY," + told(goal, row), x.heads(0, 1), STATE);
            }
        }
        for (char goal = 'a'; goal <= 'h'; goal++) {
            heads(1, 1, String.valueOf(goal), String.valueOf(goal));
        }
    }

    // add: "A KIND comes to THE ROW (as it is now)".
    private static void aKindComesAsItIsNow() {
        SlashKinds x = asked("a", "(a/b)");
        due("add", x.add(3), 2);
        due("(a / b) a", x.is(0, 0), 0);
        Check.kind(x, 3, "b");
        due("what came stays a", x.is(0, 0), 0);
        due("ATOMS", x.count(3), 3);
        x.wipe();
        due("add", x.add(11), 1);
        due("add", x.add(3), 2);
        due("(a / b) b", x.is(0, 0), 1);
        Check.kind(x, 3, TWELVE);
        Check.kind(x, 11, TWELVE);
        due("what came stays b", x.is(0, 0), 1);
        due("ATOMS then", x.count(3), 3);
    }

    // wipe: "THE ROW is empty: how many it had".
    private static void wipeTellsHowMany() {
        SlashKinds x = new SlashKinds();
        due("wipe of none", x.wipe(), 0);
        for (int n : new int[] {1, 7, 8}) {
            for (int p = 0; p < n; p++) {
                x.add(p);
            }
            due("wipe of " + n, x.wipe(), n);
            due("wipe again", x.wipe(), 0);
            due("KINDS then", x.count(0), 0);
            due("ATOMS then", x.count(3), 0);
            due("is then", x.is(0, 0), 0);
        }
        x.add(0);
        due("none of those that were stand behind the one", x.is(0, 0), 1);
    }

    // "Refused, and nothing changes, the first of these: BAD, STATE, FULL".
    private static void badAheadOfState() {
        SlashKinds x = asked("(a*b)", TWELVE, TWELVE);
        for (int logic = 0; logic <= 1; logic++) {
            due("is", x.is(0, logic), STATE);
            due("proofs", x.proofs(0, logic), STATE);
            due("meanings", x.meanings(0, logic), STATE);
            due("heads", x.heads(0, logic), STATE);
            for (int i : NO_KINDS) {
                due("is(" + i + ")", x.is(i, logic), BAD);
                due("proofs(" + i + ")", x.proofs(i, logic), BAD);
                due("meanings(" + i + ")", x.meanings(i, logic), BAD);
                due("heads(" + i + ")", x.heads(i, logic), BAD);
            }
        }
        for (int logic : NO_LOGICS) {
            due("is by " + logic, x.is(0, logic), BAD);
            due("proofs by " + logic, x.proofs(0, logic), BAD);
            due("meanings by " + logic, x.meanings(0, logic), BAD);
            due("heads by " + logic, x.heads(0, logic), BAD);
        }
    }
}
