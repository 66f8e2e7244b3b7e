import java.util.List;

/** Runs of calls by fixed seeds, each answer compared with the Model's. */
public final class RandomRuns {
    private static final String[] USUAL = {
        "a", "b", "(a/b)", "(b\\a)", "(a/a)", "(a\\a)", "(b/b)", "((b\\a)/b)", "(a/(b\\a))", "((a/b)\\a)",
        "(b/(a\\b))", "(a/(b/b))", "((a\\a)/(a\\a))", "((a/a)\\a)", "(a/(a/a))", "((a/b)/b)", "(b\\(b\\a))",
        "((b\\a)\\(b\\a))", "((b\\b)/(b\\a))", "c", "(c/a)", "(b/c)",
    };

    private Derivation.Dice dice;
    private SlashKinds x;
    private Model m;
    private String run;
    private int calls;

    public static void main(String[] args) {
        RandomRuns runs = new RandomRuns();
        for (int s = 1; s <= 100; s++) {
            runs.open("texts " + s, s);
            runs.texts();
            runs.close();
        }
        for (int s = 1; s <= 100; s++) {
            runs.open("proofs " + s, 1000 + s);
            runs.rows(12, 6, true, 1 + s % 3);
            runs.close();
        }
        for (int s = 1; s <= 100; s++) {
            runs.open("meanings " + s, 2000 + s);
            runs.rows(16, 8, false, 1 + s % 3);
            runs.close();
        }
        for (int s = 1; s <= 300; s++) {
            runs.open("derived " + s, 5000 + s);
            runs.derived(s % 2 == 0, 1 + s % 3);
            runs.close();
        }
        for (int s = 1; s <= 200; s++) {
            runs.open("lists " + s, 3000 + s);
            runs.lists(s % 4 == 0);
            runs.close();
        }
        for (int s = 1; s <= 100; s++) {
            runs.open("anything " + s, 4000 + s);
            runs.anything();
            runs.close();
        }
        Check.end("RandomRuns");
    }

    private void open(String name, long from) {
        run = name;
        dice = new Derivation.Dice(from);
        x = new SlashKinds();
        m = new Model();
        calls = 0;
    }

    /** Nothing is promised of later calls: a run that asks them would ask too much. */
    private void close() {
        Check.holds(run + " has 512 calls at most: " + calls, calls <= 512);
    }

    private boolean goesOn() {
        return calls < 400;
    }

    private int below(int bound) {
        return dice.below(bound);
    }

    private int number(int from, int to) {
        return from + below(to - from + 1);
    }

    private void due(String call, long got, long want) {
        calls++;
        Check.due(run + ": " + call, got, want);
    }

    // ---- the calls, each on both

    private void type(String text) {
        for (int from = 0; from < text.length(); ) {
            int n = Math.min(text.length() - from, number(1, 8));
            long v = 0;
            for (int p = from; p < from + n; p++) {
                v = v << 8 | text.charAt(p);
            }
            v = n < 8 ? v | (long) below(1000) << (8 * n) : v;
            due("type(" + v + ", " + n + ")", x.type(v, n), m.type(v, n));
            from += n;
        }
    }

    private void clear() {
        due("clear()", x.clear(), m.clear());
    }

    private void read(int i) {
        due("read(" + i + ")", x.read(i), m.read(i));
    }

    private void kind(int i, String text) {
        clear();
        type(text);
        read(i);
    }

    private void tellKind(int i) {
        for (int what = -1; what <= 4; what++) {
            due("about(" + i + ", " + what + ")", x.about(i, what), m.about(i, what));
        }
        for (int atom = -1; atom <= 8; atom++) {
            due("balance(" + i + ", " + atom + ")", x.balance(i, atom), m.balance(i, atom));
        }
        for (int k = -1; k <= 12; k++) {
            due("letter(" + i + ", " + k + ")", x.letter(i, k), m.letter(i, k));
        }
    }

    private void alike(int i, int j) {
        due("alike(" + i + ", " + j + ", 0)", x.alike(i, j, 0), m.alike(i, j, 0));
        due("alike(" + i + ", " + j + ", 1)", x.alike(i, j, 1), m.alike(i, j, 1));
    }

    private void add(int i) {
        due("add(" + i + ")", x.add(i), m.add(i));
    }

    private void wipe() {
        due("wipe()", x.wipe(), m.wipe());
    }

    private void tellRow(int i, int logic) {
        due("is(" + i + ", " + logic + ")", x.is(i, logic), m.is(i, logic));
        due("proofs(" + i + ", " + logic + ")", x.proofs(i, logic), m.proofs(i, logic));
        tellMeanings(i, logic);
    }

    private void tellMeanings(int i, int logic) {
        due("meanings(" + i + ", " + logic + ")", x.meanings(i, logic), m.meanings(i, logic));
        due("heads(" + i + ", " + logic + ")", x.heads(i, logic), m.heads(i, logic));
    }

    private void word(int w, int set) {
        due("word(" + w + ", " + set + ")", x.word(w, set), m.word(w, set));
    }

    private void say(int w) {
        due("say(" + w + ")", x.say(w), m.say(w));
    }

    private void hush() {
        due("hush()", x.hush(), m.hush());
    }

    private void tellSentence(int i, int logic) {
        due("reads(" + i + ", " + logic + ", 0)", x.reads(i, logic, 0), m.reads(i, logic, 0));
        due("reads(" + i + ", " + logic + ", 1)", x.reads(i, logic, 1), m.reads(i, logic, 1));
        for (int k = 0; k < 7; k++) {
            due("first(" + i + ", " + logic + ", " + k + ")", x.first(i, logic, k), m.first(i, logic, k));
        }
    }

    private void rowsOf(int i, int logic, int length) {
        due("rows(" + i + ", " + logic + ", " + length + ")", x.rows(i, logic, length), m.rows(i, logic, length));
    }

    private void near(int i, int logic) {
        for (int k = -1; k < 5; k++) {
            due("near(" + i + ", " + logic + ", " + k + ")", x.near(i, logic, k), m.near(i, logic, k));
        }
    }

    private void counts() {
        for (int what = -1; what <= 4; what++) {
            due("count(" + what + ")", x.count(what), m.count(what));
        }
    }

    // ---- the runs

    private String kindOf(int atoms, int letters, boolean stars, int open) {
        if (atoms <= 1 || open >= 6) {
            return String.valueOf((char) ('a' + below(letters)));
        }
        int ahead = number(1, atoms - 1);
        char sign = "/\\*".charAt(below(stars ? 3 : 2));
        return "(" + kindOf(ahead, letters, stars, open + 1) + sign
            + kindOf(atoms - ahead, letters, stars, open + 1) + ")";
    }

    private void texts() {
        String signs = "(()))/\\*abcdefgh i`+";
        for (int s = 0; goesOn(); s++) {
            String text = kindOf(number(1, 14), 8, true, 0);
            StringBuilder some = new StringBuilder(text);
            for (int change = below(3); change > 0; change--) {
                int at = below(some.length());
                if (below(3) == 0) {
                    some.setCharAt(at, (char) below(256));
                } else if (below(2) == 0) {
                    some.setCharAt(at, signs.charAt(below(signs.length())));
                } else {
                    some.insert(at, signs.charAt(below(signs.length())));
                }
            }
            type(some.toString());
            int i = number(-1, 12);
            read(i);
            counts();
            if (below(2) == 0) {
                clear();
            }
            if (s % 10 == 0) {
                tellKind(below(12));
            }
            alike(number(-1, 12), number(-1, 12));
        }
    }

    /** Rows of so many ATOMS at most with the KIND that they are to be. */
    private void rows(int atoms, int length, boolean stars, int letters) {
        for (int s = 0; goesOn(); s++) {
            wipe();
            int left = atoms + below(2);
            int goal = number(1, Math.min(4, left));
            kind(0, below(2) == 0 ? "a" : kindOf(goal, letters, stars, 0));
            left -= goal;
            for (int p = 0; p < length && left > 0; p++) {
                int size = Math.min(left, number(1, 4));
                kind(1, kindOf(size, letters, stars, 0));
                add(1);
                left -= size;
            }
            counts();
            kind(2, "a");
            for (int logic = 0; logic <= 1; logic++) {
                tellRow(0, logic);
                tellRow(1, logic);
                tellMeanings(2, logic);
            }
        }
        wipe();
        kind(3, kindOf(12, 1, stars, 0));
        tellRow(3, 0);
        tellRow(3, 1);
    }

    /** Rows that are of their KIND by EMPTY at least, if they are not shuffled then. */
    private void derived(boolean stars, int letters) {
        for (int s = 0; goesOn(); s++) {
            Derivation made = Derivation.of(number(2, stars ? 6 : 8), letters, stars, s % 2 == 0, dice);
            List<String> row = made.row;
            if (row.size() > 1 && below(4) == 0) {
                row.add(row.remove(below(row.size())));
            }
            if (!tellable(made)) {
                continue;
            }
            wipe();
            kind(0, made.goal);
            for (String told : row) {
                kind(1, told);
                add(1);
            }
            kind(2, String.valueOf("abc".charAt(below(letters))));
            for (int logic = 0; logic <= 1; logic++) {
                tellRow(0, logic);
                tellMeanings(2, logic);
            }
        }
    }

    private static boolean tellable(Derivation made) {
        boolean fits = made.row.size() <= 8 && Model.tells(made.goal);
        for (String told : made.row) {
            fits = fits && Model.tells(told);
        }
        return fits;
    }

    private void lists(boolean stars) {
        for (int i = 0; i < 12; i++) {
            kind(i, below(3) > 0 ? USUAL[below(USUAL.length)] : kindOf(number(1, 4), 2, stars, 0));
        }
        for (int w = 0; w < 4; w++) {
            word(w, 1 << below(12) | 1 << below(12) | 1 << below(12));
        }
        for (int s = 0; goesOn(); s++) {
            if (s % 6 == 0) {
                sayDerived(stars);
            }
            switch (below(8)) {
                case 0: word(below(4), 1 << below(12) | (below(2) == 0 ? 0 : 1 << below(12))); break;
                case 1: kind(below(12), USUAL[below(USUAL.length)]); break;
                case 2: if (below(3) == 0) { hush(); } break;
                default: say(below(4));
            }
            int i = below(3) == 0 ? below(12) : 0;
            int logic = below(2);
            switch (below(6)) {
                case 0: rowsOf(i, logic, number(1, 3)); break;
                case 1: near(i, logic); break;
                default: tellSentence(i, logic);
            }
            counts();
        }
        rowsOf(0, 0, 4);
        rowsOf(0, 1, 4);
    }

    /** THE SENTENCE becomes one that can be READ as KIND 0, by its own KINDS or more. */
    private void sayDerived(boolean stars) {
        Derivation made = Derivation.of(number(1, 6), 1 + below(2), stars, below(2) == 0, dice);
        if (!tellable(made) || made.row.size() > 4) {
            return;
        }
        hush();
        kind(0, made.goal);
        for (int w = 0; w < made.row.size(); w++) {
            kind(1 + w, made.row.get(w));
            word(w, 1 << (1 + w) | 1 << below(12) | 1 << below(12));
            say(w);
        }
    }

    private int oddNumber(int to) {
        int[] odd = {-1, to + 1, Integer.MIN_VALUE, Integer.MAX_VALUE, -2, to + 100, 1 << 12, -1 << 30};
        return below(8) == 0 ? odd[below(odd.length)] : number(0, to);
    }

    private void anything() {
        for (int i = 0; i < 12; i++) {
            kind(i, USUAL[below(USUAL.length)]);
        }
        for (int s = 0; goesOn(); s++) {
            int i = oddNumber(11);
            int logic = oddNumber(1);
            switch (below(16)) {
                case 0: {
                    long v = (long) below(1 << 30) << 34 ^ below(1 << 30);
                    int n = oddNumber(8);
                    due("type(" + v + ", " + n + ")", x.type(v, n), m.type(v, n));
                    break;
                }
                case 1: clear(); break;
                case 2: read(i); break;
                case 3: if (i >= 0 && i < 12) { kind(i, USUAL[below(USUAL.length)]); } break;
                case 4: alike(i, oddNumber(11)); break;
                case 5: add(i); break;
                case 6: if (below(4) == 0) { wipe(); } break;
                case 7: tellRow(i, logic); break;
                case 8: word(oddNumber(3), oddNumber(4095)); break;
                case 9: say(oddNumber(3)); break;
                case 10: if (below(4) == 0) { hush(); } break;
                case 11: tellSentence(i, logic); break;
                case 12: rowsOf(i, logic, oddNumber(3)); break;
                case 13: near(i, logic); break;
                case 14: {
                    int k = oddNumber(4);
                    due("near(" + i + ", " + logic + ", " + k + ")", x.near(i, logic, k), m.near(i, logic, k));
                    due("first(" + i + ", " + logic + ", " + k + ")", x.first(i, logic, k), m.first(i, logic, k));
                    due("reads(" + i + ", " + logic + ", " + k + ")", x.reads(i, logic, k), m.reads(i, logic, k));
                    break;
                }
                default: counts();
            }
        }
    }
}
