import java.util.ArrayList;
import java.util.List;

/**
 * What follows from the document's rules without going through them: answers of the program compared with
 * other answers of the program, on rows that are of their KIND, or nearly, and on rows made at random.
 */
public final class Laws {
    private final Derivation.Dice dice;
    private int asked = 0;
    private int proved = 0;

    private Laws(long from) {
        dice = new Derivation.Dice(from);
    }

    public static void main(String[] args) {
        int asked = 0;
        int proved = 0;
        for (int s = 1; s <= 6000; s++) {
            Laws laws = new Laws(s);
            laws.ofRow(s % 2 == 0, s % 3 == 0, 1 + s % 3);
            asked += laws.asked;
            proved += laws.proved;
        }
        for (int s = 1; s <= 2000; s++) {
            new Laws(10000 + s).ofKinds();
        }
        // A law that is never put to the test holds for nothing.
        Check.holds("rows that are of their KIND: " + proved + " of " + asked, proved > 2000 && asked - proved > 1000);
        Check.end("Laws");
    }

    /** Rows of 12 ATOMS at most with what they are to be, so that all may be asked. */
    private void ofRow(boolean stars, boolean mayBeEmpty, int letters) {
        Derivation made = Derivation.of(2 + dice.below(5), letters, stars, mayBeEmpty, dice);
        List<String> row = new ArrayList<>(made.row);
        if (row.size() > 1 && dice.below(3) == 0) {
            row.add(dice.below(row.size()), row.remove(dice.below(row.size())));
        }
        if (!tellable(row, made.goal)) {
            return;
        }
        SlashKinds x = told(row, made.goal);
        SlashKinds mirrored = told(mirrorOf(row), mirrorOf(made.goal));
        for (int logic = 0; logic <= 1; logic++) {
            String name = String.join(" ", row) + " => " + made.goal + " by " + logic;
            asked++;
            proved += x.is(0, logic);
            proofsLaws(name, x, logic);
            meaningsLaws(name, x, logic, made.goal.length() == 1);
            theOtherWayAbout(name, x, mirrored, logic);
            listLaws(name, x, row, logic);
        }
        Check.holds("what is FULL is EMPTY: " + row + made.goal, x.is(0, 0) <= x.is(0, 1)
            && x.proofs(0, 0) <= x.proofs(0, 1) && x.meanings(0, 0) <= x.meanings(0, 1));
        lettersOfTheRow(x, row);
        byItsOwnRule(x, row, made.goal);
    }

    private static boolean tellable(List<String> row, String goal) {
        int atoms = atomsOf(goal);
        boolean fits = row.size() <= 6 && Model.tells(goal);
        for (String kind : row) {
            fits = fits && Model.tells(kind);
            atoms += atomsOf(kind);
        }
        return fits && atoms <= 12;
    }

    private static int atomsOf(String text) {
        return text.replaceAll("[^a-h]", "").length();
    }

    /** KIND 0 is what the row is to be, KINDS 1 .. 6 are the row. */
    private static SlashKinds told(List<String> row, String goal) {
        SlashKinds x = new SlashKinds();
        Check.kind(x, 0, goal);
        for (int p = 0; p < row.size(); p++) {
            Check.kind(x, p + 1, row.get(p));
            x.add(p + 1);
        }
        return x;
    }

    // "PROOFS: in how many ways"; IS: "as far as these rules go".
    private static void proofsLaws(String name, SlashKinds x, int logic) {
        Check.holds("IS where there are PROOFS: " + name, x.is(0, logic) == (x.proofs(0, logic) > 0 ? 1 : 0));
    }

    // "MEANINGS ..: how many normal ways": where there is a way there is a normal one, and it is a way.
    private static void meaningsLaws(String name, SlashKinds x, int logic, boolean atom) {
        int meanings = x.meanings(0, logic);
        if (meanings == SlashKinds.STATE) {
            return;
        }
        Check.holds("a MEANING where it IS: " + name, x.is(0, logic) == (meanings > 0 ? 1 : 0));
        Check.holds("as many PROOFS at least: " + name, x.proofs(0, logic) >= meanings);
        if (atom) {
            int heads = x.heads(0, logic);
            Check.holds("a HEAD where there is a MEANING: " + name, (heads != 0) == (meanings > 0));
            Check.holds("as many MEANINGS at least: " + name, Integer.bitCount(heads) <= meanings);
            for (int p = 0; p < x.count(0); p++) {
                Check.holds("HEADS have the GOAL: " + name, (heads >> p & 1) == 0 || x.about(p + 1, 2) == x.about(0, 2));
            }
        } else {
            Check.due("HEADS of what is no ATOM: " + name, x.heads(0, logic), SlashKinds.STATE);
        }
    }

    private static String mirrorOf(String kind) {
        StringBuilder out = new StringBuilder(kind).reverse();
        for (int p = 0; p < out.length(); p++) {
            int sign = "()/\\".indexOf(out.charAt(p));
            out.setCharAt(p, sign < 0 ? out.charAt(p) : ")(\\/".charAt(sign));
        }
        return out.toString();
    }

    private static List<String> mirrorOf(List<String> row) {
        List<String> out = new ArrayList<>();
        for (String kind : row) {
            out.add(0, mirrorOf(kind));
        }
        return out;
    }

    /** All rules tell of behind what they tell of ahead. */
    private static void theOtherWayAbout(String name, SlashKinds x, SlashKinds mirrored, int logic) {
        Check.due("mirrored: is " + name, mirrored.is(0, logic), x.is(0, logic));
        Check.due("mirrored: proofs " + name, mirrored.proofs(0, logic), x.proofs(0, logic));
        Check.due("mirrored: meanings " + name, mirrored.meanings(0, logic), x.meanings(0, logic));
        int heads = x.heads(0, logic);
        int want = heads;
        if (heads > 0) {
            want = Integer.reverse(heads) >>> (32 - x.count(0));
        }
        Check.due("mirrored: heads " + name, mirrored.heads(0, logic), want);
    }

    /** A SENTENCE of WORDS with one KIND each means what THE ROW means. */
    private static void listLaws(String name, SlashKinds x, List<String> row, int logic) {
        if (row.size() > 4) {
            return;
        }
        x.hush();
        for (int w = 0; w < row.size(); w++) {
            x.word(w, 1 << (w + 1));
            x.say(w);
        }
        int meanings = Math.max(0, x.meanings(0, logic));
        Check.due("MEANT: " + name, x.reads(0, logic, 1), meanings);
        Check.due("READ: " + name, x.reads(0, logic, 0), meanings > 0 ? 1 : 0);
        for (int k = 0; k < row.size(); k++) {
            Check.due("FIRST READING: " + name, x.first(0, logic, k), meanings > 0 ? k + 1 : SlashKinds.NONE);
        }
        int near = x.near(0, logic, -1);
        Check.holds("NEAR is 0 where it is READ: " + name, (near == 0) == (meanings > 0));
        if (row.size() >= 1) {
            int rows = x.rows(0, logic, row.size());
            Check.holds("NEAR is NONE where there are no ROWS: " + name, (near == SlashKinds.NONE) == (rows == 0));
        }
    }

    /** Every rule keeps BALANCE and LETTERS: those of the row, side by side, are those of the KIND. */
    private static void lettersOfTheRow(SlashKinds x, List<String> row) {
        if (x.is(0, 1) == 0 || row.isEmpty()) {
            return;
        }
        String all = row.get(0);
        for (int p = 1; p < row.size(); p++) {
            all = "(" + all + "*" + row.get(p) + ")";
        }
        for (int atom = 0; atom < 8; atom++) {
            int sum = 0;
            for (int p = 0; p < row.size(); p++) {
                sum += x.balance(p + 1, atom);
            }
            Check.due("BALANCE of " + row, sum, x.balance(0, atom));
        }
        if (Model.tells(all)) {
            Check.kind(x, 7, all);
            Check.due("ALIKE: " + row, x.alike(7, 0, 0), 1);
        }
    }

    // "a row is X / Y, if the row with Y behind it is X": and only then, whatever rule comes first.
    private static void byItsOwnRule(SlashKinds x, List<String> row, String goal) {
        if (row.isEmpty()) {
            return;
        }
        String last = row.get(row.size() - 1);
        String over = "(" + goal + "/" + last + ")";
        String under = "(" + row.get(0) + "\\" + goal + ")";
        for (int logic = 0; logic <= 1; logic++) {
            int is = x.is(0, logic);
            int meanings = x.meanings(0, logic);
            if (row.size() > 1 - logic && Model.tells(over)) {
                SlashKinds shorter = told(row.subList(0, row.size() - 1), over);
                Check.due(row + " less the last is " + over, shorter.is(0, logic), logic == 0 && row.size() == 1 ? 0 : is);
                if (logic == 1 || row.size() > 1) {
                    Check.due("MEANINGS of it", shorter.meanings(0, logic), meanings);
                }
            }
            if (row.size() > 1 - logic && Model.tells(under)) {
                SlashKinds shorter = told(row.subList(1, row.size()), under);
                Check.due(row + " less the first is " + under, shorter.is(0, logic), logic == 0 && row.size() == 1 ? 0 : is);
                if (logic == 1 || row.size() > 1) {
                    Check.due("MEANINGS of it", shorter.meanings(0, logic), meanings);
                }
            }
        }
    }

    private String kindOf(int atoms, int letters) {
        if (atoms == 1) {
            return String.valueOf((char) ('a' + dice.below(letters)));
        }
        int first = 1 + dice.below(atoms - 1);
        return "(" + kindOf(first, letters) + "/\\*".charAt(dice.below(3)) + kindOf(atoms - first, letters) + ")";
    }

    // "ALIKE ..: just then there is one that both can be raised to".
    private void ofKinds() {
        String one = kindOf(1 + dice.below(3), 2);
        String other = kindOf(1 + dice.below(3), 2);
        String third = kindOf(1 + dice.below(5), 2);
        SlashKinds x = told(List.of(one), third);
        SlashKinds y = told(List.of(other), third);
        Check.kind(x, 2, other);
        if (x.is(0, 1) == 1 && y.is(0, 1) == 1) {
            Check.due(one + " and " + other + " are " + third, x.alike(1, 2, 0), 1);
        }
        // A KIND can be raised over any other one, and is ALIKE to what it is raised to.
        String raised = "(" + one + "/(" + other + "\\" + one + "))";
        if (Model.tells(raised) && atomsOf(raised) + atomsOf(other) <= 12) {
            SlashKinds z = told(List.of(other), raised);
            Check.due(other + " raised to " + raised, z.is(0, 0), 1);
            Check.kind(z, 2, other);
            Check.due(other + " ALIKE " + raised, z.alike(0, 2, 0), 1);
        }
    }
}
