import java.math.BigInteger;
import java.util.ArrayList;
import java.util.HashMap;
import java.util.List;
import java.util.Map;

/**
 * The document once more, as plainly as it can be written: KINDS are texts, rows are lists of texts,
 * every question is answered by going through all that the rules allow.
 */
final class Model {
    private static final BigInteger MODULUS = BigInteger.valueOf(1000000007);

    private String text = "";
    private final String[] kinds = new String[12];
    private List<String> row = new ArrayList<>();
    private final int[] sets = new int[4];
    private final List<Integer> sentence = new ArrayList<>();

    Model() {
        for (int i = 0; i < 12; i++) {
            kinds[i] = "a";
        }
    }

    private static boolean in(long number, long from, long to) {
        return number >= from && number <= to;
    }

    // ---- kinds

    int type(long v, int n) {
        if (!in(n, 1, 8)) {
            return -1;
        }
        if (text.length() + n > 80) {
            return -3;
        }
        StringBuilder more = new StringBuilder();
        for (int k = 0; k < n; k++) {
            more.insert(0, (char) (v & 255));
            v >>= 8;
        }
        text += more;
        return text.length();
    }

    int clear() {
        int had = text.length();
        text = "";
        return had;
    }

    int read(int i) {
        if (!in(i, 0, 11)) {
            return -1;
        }
        int fault = new Parser(text).fault();
        if (fault >= 0) {
            return -10 - fault;
        }
        kinds[i] = text;
        text = "";
        return size(kinds[i]);
    }

    int about(int i, int what) {
        if (!in(i, 0, 11) || !in(what, 0, 3)) {
            return -1;
        }
        String kind = kinds[i];
        if (what == 0) {
            return size(kind);
        }
        if (what == 1) {
            return order(kind);
        }
        if (what == 2) {
            return kind.indexOf('*') >= 0 ? -9 : goal(kind);
        }
        return letters(kind).length();
    }

    int balance(int i, int atom) {
        return in(i, 0, 11) && in(atom, 0, 7) ? balanceOf(kinds[i], (char) ('a' + atom)) : -1000000;
    }

    int letter(int i, int k) {
        if (!in(i, 0, 11) || !in(k, 0, letters(kinds[i]).length() - 1)) {
            return -1000000;
        }
        char letter = letters(kinds[i]).charAt(k);
        return letter >= 'a' ? letter - 'a' + 1 : -(letter - 'A' + 1);
    }

    int alike(int i, int j, int same) {
        if (!in(i, 0, 11) || !in(j, 0, 11) || !in(same, 0, 1)) {
            return -1;
        }
        boolean yes = same == 1 ? kinds[i].equals(kinds[j]) : letters(kinds[i]).equals(letters(kinds[j]));
        return yes ? 1 : 0;
    }

    // ---- rows

    int add(int i) {
        if (!in(i, 0, 11)) {
            return -1;
        }
        if (row.size() == 8) {
            return -3;
        }
        row.add(kinds[i]);
        return row.size();
    }

    int wipe() {
        int had = row.size();
        row = new ArrayList<>();
        return had;
    }

    int is(int i, int logic) {
        int proofs = proofs(i, logic);
        return proofs < 0 ? proofs : count(row, kinds[i], logic == 0).signum();
    }

    int proofs(int i, int logic) {
        if (!in(i, 0, 11) || !in(logic, 0, 1)) {
            return -1;
        }
        return size(row) + size(kinds[i]) > 12 ? -2 : count(row, kinds[i], logic == 0).mod(MODULUS).intValue();
    }

    int meanings(int i, int logic) {
        if (!in(i, 0, 11) || !in(logic, 0, 1)) {
            return -1;
        }
        return allowed(row, kinds[i]) ? (int) (normal(row, kinds[i], logic == 0) % 1000000007) : -2;
    }

    int heads(int i, int logic) {
        if (!in(i, 0, 11) || !in(logic, 0, 1)) {
            return -1;
        }
        if (kinds[i].length() > 1 || !allowed(row, kinds[i])) {
            return -2;
        }
        int set = 0;
        for (int p = 0; p < row.size(); p++) {
            if (goal(row.get(p)) == goal(kinds[i]) && normalFrom(row, row.get(p), p, p + 1, logic == 0) > 0) {
                set += 1 << p;
            }
        }
        return set;
    }

    // ---- lists

    int word(int w, int set) {
        if (!in(w, 0, 3) || !in(set, 0, 4095) || Integer.bitCount(set) > 3) {
            return -1;
        }
        int had = sets[w];
        sets[w] = set;
        return had;
    }

    int say(int w) {
        if (!in(w, 0, 3)) {
            return -1;
        }
        if (sentence.size() == 6) {
            return -3;
        }
        sentence.add(w);
        return sentence.size();
    }

    int hush() {
        int had = sentence.size();
        sentence.clear();
        return had;
    }

    int reads(int i, int logic, int what) {
        if (!in(i, 0, 11) || !in(logic, 0, 1) || !in(what, 0, 1)) {
            return -1;
        }
        long sum = 0;
        for (List<Integer> choice : choices(sentence)) {
            long meanings = meaningsOf(choice, i, logic);
            sum += what == 1 ? meanings : Long.signum(meanings);
        }
        return (int) (sum % 1000000007);
    }

    int first(int i, int logic, int k) {
        if (!in(i, 0, 11) || !in(logic, 0, 1) || !in(k, 0, sentence.size() - 1)) {
            return -1;
        }
        for (List<Integer> choice : choices(sentence)) {
            if (meaningsOf(choice, i, logic) > 0) {
                return choice.get(k);
            }
        }
        return -9;
    }

    int rows(int i, int logic, int length) {
        if (!in(i, 0, 11) || !in(logic, 0, 1) || !in(length, 1, 4)) {
            return -1;
        }
        int rows = 0;
        for (List<Integer> words : rowsOfWords(length)) {
            rows += readable(words, i, logic) ? 1 : 0;
        }
        return rows;
    }

    int near(int i, int logic, int k) {
        if (!in(i, 0, 11) || !in(logic, 0, 1) || !in(k, -1, sentence.size() - 1)) {
            return -1;
        }
        if (sentence.size() > 4) {
            return -2;
        }
        int fewest = 99;
        List<Integer> nearest = null;
        for (List<Integer> words : rowsOfWords(sentence.size())) {
            int changes = 0;
            for (int p = 0; p < words.size(); p++) {
                changes += words.get(p).equals(sentence.get(p)) ? 0 : 1;
            }
            if (changes < fewest && readable(words, i, logic)) {
                fewest = changes;
                nearest = words;
            }
        }
        if (nearest == null) {
            return -9;
        }
        return k == -1 ? fewest : nearest.get(k);
    }

    int count(int what) {
        switch (what) {
            case 0: return row.size();
            case 1: return sentence.size();
            case 2: return text.length();
            case 3: return size(row);
            default: return -1;
        }
    }

    // ---- what a text of a KIND tells

    static boolean tells(String text) {
        return new Parser(text).fault() < 0;
    }

    private static boolean atom(String kind) {
        return kind.length() == 1;
    }

    /** The place of the outermost sign. */
    private static int middle(String kind) {
        int open = 0;
        for (int p = 0; p < kind.length(); p++) {
            char c = kind.charAt(p);
            open += c == '(' ? 1 : c == ')' ? -1 : 0;
            if (open == 1 && (c == '/' || c == '\\' || c == '*')) {
                return p;
            }
        }
        throw new IllegalStateException(kind);
    }

    private static char sign(String kind) {
        return kind.charAt(middle(kind));
    }

    private static String before(String kind) {
        return kind.substring(1, middle(kind));
    }

    private static String behind(String kind) {
        return kind.substring(middle(kind) + 1, kind.length() - 1);
    }

    private static String x(String kind) {
        return sign(kind) == '\\' ? behind(kind) : before(kind);
    }

    private static String y(String kind) {
        return sign(kind) == '\\' ? before(kind) : behind(kind);
    }

    private static int size(String kind) {
        int size = 0;
        for (char c : kind.toCharArray()) {
            size += Character.isLetter(c) ? 1 : 0;
        }
        return size;
    }

    private static int size(List<String> row) {
        int size = 0;
        for (String kind : row) {
            size += size(kind);
        }
        return size;
    }

    private static int order(String kind) {
        if (atom(kind)) {
            return 0;
        }
        return Math.max(order(x(kind)), order(y(kind)) + (sign(kind) == '*' ? 0 : 1));
    }

    private static int goal(String kind) {
        return atom(kind) ? kind.charAt(0) - 'a' : goal(x(kind));
    }

    private static int balanceOf(String kind, char atom) {
        if (atom(kind)) {
            return kind.charAt(0) == atom ? 1 : 0;
        }
        return balanceOf(x(kind), atom) + (sign(kind) == '*' ? 1 : -1) * balanceOf(y(kind), atom);
    }

    /** LETTERS; those undone are large ones. */
    private static String letters(String kind) {
        String all = allLetters(kind);
        for (int p = 0; p + 1 < all.length(); p++) {
            if (Math.abs(all.charAt(p) - all.charAt(p + 1)) == 'a' - 'A') {
                all = all.substring(0, p) + all.substring(p + 2);
                p = -1;
            }
        }
        return all;
    }

    private static String allLetters(String kind) {
        if (atom(kind)) {
            return kind;
        }
        switch (sign(kind)) {
            case '*': return allLetters(x(kind)) + allLetters(y(kind));
            case '/': return allLetters(x(kind)) + undone(allLetters(y(kind)));
            default: return undone(allLetters(y(kind))) + allLetters(x(kind));
        }
    }

    private static String undone(String letters) {
        StringBuilder out = new StringBuilder();
        for (char c : letters.toCharArray()) {
            out.insert(0, (char) (c ^ ('a' ^ 'A')));
        }
        return out.toString();
    }

    // ---- proofs

    private final Map<String, BigInteger> known = new HashMap<>();

    private BigInteger count(List<String> row, String goal, boolean full) {
        if (full && row.isEmpty()) {
            return BigInteger.ZERO;
        }
        String key = row + "=" + goal + full;
        BigInteger answer = known.get(key);
        if (answer == null) {
            answer = countByGoal(row, goal, full).add(countByRow(row, goal, full));
            known.put(key, answer);
        }
        return answer;
    }

    private BigInteger countByGoal(List<String> row, String goal, boolean full) {
        if (atom(goal)) {
            return row.size() == 1 && row.get(0).equals(goal) ? BigInteger.ONE : BigInteger.ZERO;
        }
        switch (sign(goal)) {
            case '/': return count(joined(row, List.of(y(goal)), List.of()), x(goal), full);
            case '\\': return count(joined(List.of(y(goal)), row, List.of()), x(goal), full);
            default:
        }
        BigInteger sum = BigInteger.ZERO;
        for (int cut = 0; cut <= row.size(); cut++) {
            BigInteger firsts = count(row.subList(0, cut), x(goal), full);
            if (firsts.signum() > 0) {
                sum = sum.add(firsts.multiply(count(row.subList(cut, row.size()), y(goal), full)));
            }
        }
        return sum;
    }

    private BigInteger countByRow(List<String> row, String goal, boolean full) {
        BigInteger sum = BigInteger.ZERO;
        int n = row.size();
        for (int p = 0; p < n; p++) {
            String kind = row.get(p);
            if (atom(kind)) {
                continue;
            }
            if (sign(kind) == '*') {
                sum = sum.add(count(joined(row.subList(0, p), List.of(x(kind), y(kind)), row.subList(p + 1, n)), goal, full));
            } else if (sign(kind) == '/') {
                for (int to = p + 1; to <= n; to++) {
                    BigInteger wanted = count(row.subList(p + 1, to), y(kind), full);
                    if (wanted.signum() > 0) {
                        List<String> rest = joined(row.subList(0, p), List.of(x(kind)), row.subList(to, n));
                        sum = sum.add(wanted.multiply(count(rest, goal, full)));
                    }
                }
            } else {
                for (int from = 0; from <= p; from++) {
                    BigInteger wanted = count(row.subList(from, p), y(kind), full);
                    if (wanted.signum() > 0) {
                        List<String> rest = joined(row.subList(0, from), List.of(x(kind)), row.subList(p + 1, n));
                        sum = sum.add(wanted.multiply(count(rest, goal, full)));
                    }
                }
            }
        }
        return sum;
    }

    private static List<String> joined(List<String> a, List<String> b, List<String> c) {
        List<String> all = new ArrayList<>(a);
        all.addAll(b);
        all.addAll(c);
        return all;
    }

    // ---- meanings

    private static boolean allowed(List<String> row, String goal) {
        return !(row + goal).contains("*") && size(row) + size(goal) <= 16;
    }

    private final Map<String, Long> knownNormal = new HashMap<>();

    private long normal(List<String> row, String goal, boolean full) {
        if (full && row.isEmpty()) {
            return 0;
        }
        if (!atom(goal)) {
            return sign(goal) == '/'
                ? normal(joined(row, List.of(y(goal)), List.of()), x(goal), full)
                : normal(joined(List.of(y(goal)), row, List.of()), x(goal), full);
        }
        String key = row + "=" + goal + full;
        Long answer = knownNormal.get(key);
        if (answer == null) {
            answer = 0L;
            for (int p = 0; p < row.size(); p++) {
                if (goal(row.get(p)) == goal(goal)) {
                    answer += normalFrom(row, row.get(p), p, p + 1, full);
                }
            }
            knownNormal.put(key, answer);
        }
        return answer;
    }

    /** A head that is a KIND by now and has the row's places from .. to - 1. */
    private long normalFrom(List<String> row, String kind, int from, int to, boolean full) {
        if (atom(kind)) {
            return from == 0 && to == row.size() ? 1 : 0;
        }
        long sum = 0;
        if (sign(kind) == '/') {
            for (int end = to; end <= row.size(); end++) {
                long rest = normalFrom(row, x(kind), from, end, full);
                sum += rest == 0 ? 0 : rest * normal(row.subList(to, end), y(kind), full);
            }
        } else {
            for (int start = 0; start <= from; start++) {
                long rest = normalFrom(row, x(kind), start, to, full);
                sum += rest == 0 ? 0 : rest * normal(row.subList(start, from), y(kind), full);
            }
        }
        return sum;
    }

    // ---- lists

    private List<List<Integer>> choices(List<Integer> words) {
        List<List<Integer>> all = new ArrayList<>();
        all.add(new ArrayList<>());
        for (int w : words) {
            List<List<Integer>> longer = new ArrayList<>();
            for (List<Integer> choice : all) {
                for (int i = 0; i < 12; i++) {
                    if ((sets[w] & 1 << i) != 0) {
                        List<Integer> more = new ArrayList<>(choice);
                        more.add(i);
                        longer.add(more);
                    }
                }
            }
            all = longer;
        }
        return all;
    }

    private static List<List<Integer>> rowsOfWords(int length) {
        List<List<Integer>> all = new ArrayList<>();
        all.add(new ArrayList<>());
        for (int p = 0; p < length; p++) {
            List<List<Integer>> longer = new ArrayList<>();
            for (List<Integer> words : all) {
                for (int w = 0; w < 4; w++) {
                    List<Integer> more = new ArrayList<>(words);
                    more.add(w);
                    longer.add(more);
                }
            }
            all = longer;
        }
        return all;
    }

    private long meaningsOf(List<Integer> choice, int i, int logic) {
        List<String> chosen = new ArrayList<>();
        for (int k : choice) {
            chosen.add(kinds[k]);
        }
        return allowed(chosen, kinds[i]) ? normal(chosen, kinds[i], logic == 0) : 0;
    }

    private boolean readable(List<Integer> words, int i, int logic) {
        for (List<Integer> choice : choices(words)) {
            if (meaningsOf(choice, i, logic) > 0) {
                return true;
            }
        }
        return false;
    }

    /** A parser that goes down with the grammar. */
    private static final class Parser {
        private final String text;
        private int at = 0;
        private int atoms = 0;

        Parser(String text) {
            this.text = text;
        }

        int fault() {
            if (!kind(0)) {
                return at;
            }
            return at < text.length() ? at : -1;
        }

        private boolean kind(int open) {
            if (at < text.length() && text.charAt(at) >= 'a' && text.charAt(at) <= 'h' && atoms < 12) {
                atoms++;
                at++;
                return true;
            }
            return open < 6 && one("(") && kind(open + 1) && one("/\\*") && kind(open + 1) && one(")");
        }

        private boolean one(String signs) {
            boolean fits = at < text.length() && signs.indexOf(text.charAt(at)) >= 0;
            at += fits ? 1 : 0;
            return fits;
        }
    }
}
