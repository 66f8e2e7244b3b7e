import java.util.Arrays;

/** KINDS of words, rows of them proved to be of a KIND, and lists of words read by them. */
public final class SlashKinds {
    public static final int BAD = -1, STATE = -2, FULL = -3, NONE = -9;
    public static final int NO = -1000000;

    private static final int KIND_COUNT = 12;
    private static final int ROW_MOST = 8;
    private static final int WORD_COUNT = 4;
    private static final int KINDS_OF_WORD = 3;
    private static final int SENTENCE_MOST = 6;
    private static final int ROWS_LENGTH_MOST = 4;
    private static final int PROOF_ATOMS = 12;
    private static final int MEANING_ATOMS = 16;
    private static final int MODULUS = 1000000007;

    private final KindText text = new KindText();
    private final Kind[] kinds = new Kind[KIND_COUNT];
    private final Kind[] row = new Kind[ROW_MOST];
    private int rowLength = 0;
    private final int[] sets = new int[WORD_COUNT];
    private final int[] sentence = new int[SENTENCE_MOST];
    private int sentenceLength = 0;
    private final Prover prover;
    private final MeaningSearch meaningSearch;
    private final Reader reader;

    public SlashKinds() {
        Kind plain = Kind.ofAtom(0);
        for (int i = 0; i < kinds.length; i++) {
            kinds[i] = plain;
        }
        for (int p = 0; p < row.length; p++) {
            row[p] = plain;
        }
        // The two searches never run at once, so they share their tables.
        Nodes nodes = new Nodes();
        Memo memo = new Memo();
        prover = new Prover(nodes, memo);
        meaningSearch = new MeaningSearch(nodes, memo);
        reader = new Reader(meaningSearch);
    }

    // ---- kinds

    public int type(long v, int n) {
        if (n < 1 || n > 8) {
            return BAD;
        }
        if (!text.hasRoomFor(n)) {
            return FULL;
        }
        for (int k = n - 1; k >= 0; k--) {
            text.append((int) (v >>> (8 * k)) & 255);
        }
        return text.length();
    }

    public int clear() {
        return text.empty();
    }

    public int read(int i) {
        if (!isKindNumber(i)) {
            return BAD;
        }
        int fault = text.findFault();
        if (fault >= 0) {
            return -10 - fault;
        }
        kinds[i] = text.parsedKind();
        text.empty();
        return kinds[i].size;
    }

    public int about(int i, int what) {
        if (!isKindNumber(i)) {
            return BAD;
        }
        switch (what) {
            case 0: return kinds[i].size;
            case 1: return kinds[i].order;
            case 2: return kinds[i].goal;
            case 3: return kinds[i].letterCount();
            default: return BAD;
        }
    }

    public int balance(int i, int atom) {
        if (!isKindNumber(i) || atom < 0 || atom >= Kind.ATOM_COUNT) {
            return NO;
        }
        return kinds[i].balanceOf(atom);
    }

    public int letter(int i, int k) {
        if (!isKindNumber(i) || k < 0 || k >= kinds[i].letterCount()) {
            return NO;
        }
        return kinds[i].letterAt(k);
    }

    public int alike(int i, int j, int same) {
        if (!isKindNumber(i) || !isKindNumber(j) || same < 0 || same > 1) {
            return BAD;
        }
        boolean yes = same == 1 ? kinds[i].hasTextOf(kinds[j]) : kinds[i].hasLettersOf(kinds[j]);
        return yes ? 1 : 0;
    }

    // ---- rows

    public int add(int i) {
        if (!isKindNumber(i)) {
            return BAD;
        }
        if (rowLength < 0 || rowLength >= row.length) {
            return FULL;
        }
        row[rowLength] = kinds[i];
        rowLength++;
        return rowLength;
    }

    public int wipe() {
        int had = rowLength;
        rowLength = 0;
        return had;
    }

    public int is(int i, int logic) {
        if (!isKindNumber(i) || !isLogic(logic)) {
            return BAD;
        }
        if (!provable(i)) {
            return STATE;
        }
        return prover.proves(row, rowLength, kinds[i], logic == 0) ? 1 : 0;
    }

    public int proofs(int i, int logic) {
        if (!isKindNumber(i) || !isLogic(logic)) {
            return BAD;
        }
        if (!provable(i)) {
            return STATE;
        }
        return prover.countOfProofs(row, rowLength, kinds[i], logic == 0);
    }

    public int meanings(int i, int logic) {
        if (!isKindNumber(i) || !isLogic(logic)) {
            return BAD;
        }
        if (!MeaningSearch.allows(row, rowLength, kinds[i])) {
            return STATE;
        }
        return meaningSearch.countOfMeanings(row, rowLength, kinds[i], logic == 0);
    }

    public int heads(int i, int logic) {
        if (!isKindNumber(i) || !isLogic(logic)) {
            return BAD;
        }
        if (kinds[i].size != 1 || !MeaningSearch.allows(row, rowLength, kinds[i])) {
            return STATE;
        }
        return meaningSearch.setOfHeads(row, rowLength, kinds[i], logic == 0);
    }

    // ---- lists

    public int word(int w, int set) {
        if (!isWord(w) || set < 0 || set >= 1 << KIND_COUNT || Integer.bitCount(set) > KINDS_OF_WORD) {
            return BAD;
        }
        int had = sets[w];
        sets[w] = set;
        return had;
    }

    public int say(int w) {
        if (!isWord(w)) {
            return BAD;
        }
        if (sentenceLength < 0 || sentenceLength >= sentence.length) {
            return FULL;
        }
        sentence[sentenceLength] = w;
        sentenceLength++;
        return sentenceLength;
    }

    public int hush() {
        int had = sentenceLength;
        sentenceLength = 0;
        return had;
    }

    public int reads(int i, int logic, int what) {
        if (!isKindNumber(i) || !isLogic(logic) || what < 0 || what > 1) {
            return BAD;
        }
        reader.open(kinds, sets, kinds[i], logic == 0);
        return what == 0
            ? reader.countOfReadings(sentence, sentenceLength)
            : reader.sumOfMeanings(sentence, sentenceLength);
    }

    public int first(int i, int logic, int k) {
        if (!isKindNumber(i) || !isLogic(logic) || k < 0 || k >= sentenceLength) {
            return BAD;
        }
        reader.open(kinds, sets, kinds[i], logic == 0);
        return reader.findReading(sentence, sentenceLength) ? reader.kindNumberAt(sentence, k) : NONE;
    }

    public int rows(int i, int logic, int length) {
        if (!isKindNumber(i) || !isLogic(logic) || length < 1 || length > ROWS_LENGTH_MOST) {
            return BAD;
        }
        reader.open(kinds, sets, kinds[i], logic == 0);
        return reader.countOfReadableRows(length);
    }

    public int near(int i, int logic, int k) {
        if (!isKindNumber(i) || !isLogic(logic) || k < -1 || k >= sentenceLength) {
            return BAD;
        }
        if (sentenceLength > ROWS_LENGTH_MOST) {
            return STATE;
        }
        reader.open(kinds, sets, kinds[i], logic == 0);
        int changes = reader.findNearestRow(sentence, sentenceLength);
        if (changes < 0) {
            return NONE;
        }
        return k < 0 ? changes : reader.wordOfNearestRow(k);
    }

    public int count(int what) {
        switch (what) {
            case 0: return rowLength;
            case 1: return sentenceLength;
            case 2: return text.length();
            case 3: return Kind.atomsOf(row, rowLength);
            default: return BAD;
        }
    }

    private static boolean isKindNumber(int i) {
        return i >= 0 && i < KIND_COUNT;
    }

    private static boolean isLogic(int logic) {
        return logic == 0 || logic == 1;
    }

    private static boolean isWord(int w) {
        return w >= 0 && w < WORD_COUNT;
    }

    private boolean provable(int i) {
        return isKindNumber(i) && Kind.atomsOf(row, rowLength) + kinds[i].size <= PROOF_ATOMS;
    }

    /** A KIND that never changes, so that the row may keep it "as it is now" by a reference. */
    private static final class Kind {
        static final int ATOM_COUNT = 8;
        static final int OVER = 8;
        static final int UNDER = 9;
        static final int PAIR = 10;
        static final int MOST_ATOMS = 12;
        static final int MOST_OPEN = 6;
        /** A power of two above the 23 nodes of 12 ATOMS: a masked index is always inside. */
        static final int ROOM = 32;
        static final int MASK = ROOM - 1;
        /** A byte an ATOM: no sum of 16 ATOMS or of a row runs over into the next byte's value. */
        private static final int BITS_OF_BALANCE = 8;

        /** In the order of the text, parts ahead of their whole; the last node is the whole KIND. */
        final int[] signs;
        /** What is left of X / Y and Y \ X; the first part of X * Y. */
        final int[] resultNodes;
        /** What is wanted by X / Y and Y \ X; the second part of X * Y. */
        final int[] argumentNodes;
        final int[] nodeGoals = new int[ROOM];
        final long[] nodeBalances = new long[ROOM];
        final int nodeCount;
        final int size;
        final int order;
        final int goal;
        final long balances;
        private final int[] letters = new int[MOST_ATOMS];
        private int letterCount = 0;

        private Kind(int[] signs, int[] resultNodes, int[] argumentNodes, int nodeCount) {
            this.signs = Arrays.copyOf(signs, ROOM);
            this.resultNodes = Arrays.copyOf(resultNodes, ROOM);
            this.argumentNodes = Arrays.copyOf(argumentNodes, ROOM);
            this.nodeCount = nodeCount;
            int[] orders = new int[ROOM];
            int atoms = 0;
            for (int n = 0; n < nodeCount && n < ROOM; n++) {
                int sign = this.signs[n];
                int x = this.resultNodes[n] & MASK;
                int y = this.argumentNodes[n] & MASK;
                atoms += sign < ATOM_COUNT ? 1 : 0;
                orders[n] = orderOf(sign, orders[x], orders[y]);
                nodeGoals[n] = goalOf(sign, nodeGoals[x], nodeGoals[y]);
                nodeBalances[n] = balancesOf(sign, nodeBalances[x], nodeBalances[y]);
            }
            int top = (nodeCount - 1) & MASK;
            size = atoms;
            order = orders[top];
            goal = nodeGoals[top];
            balances = nodeBalances[top];
        }

        static Kind of(int[] signs, int[] resultNodes, int[] argumentNodes, int nodeCount) {
            Kind kind = new Kind(signs, resultNodes, argumentNodes, nodeCount);
            kind.letterCount = spell(kind, nodeCount - 1, false, 0, 0);
            return kind;
        }

        static Kind ofAtom(int atom) {
            int[] one = new int[ROOM];
            one[0] = atom;
            return of(one, new int[ROOM], new int[ROOM], 1);
        }

        static int atomsOf(Kind[] row, int length) {
            int atoms = 0;
            for (int p = 0; p < length && p < row.length; p++) {
                atoms += row[p].size;
            }
            return atoms;
        }

        private static int orderOf(int sign, int ofX, int ofY) {
            if (sign < ATOM_COUNT) {
                return 0;
            }
            return Math.max(ofX, sign == PAIR ? ofY : ofY + 1);
        }

        /** NONE as soon as a * stands anywhere, in what is wanted too. */
        private static int goalOf(int sign, int ofX, int ofY) {
            if (sign < ATOM_COUNT) {
                return sign;
            }
            return sign == PAIR || ofY == NONE ? NONE : ofX;
        }

        private static long balancesOf(int sign, long ofX, long ofY) {
            if (sign < ATOM_COUNT) {
                return 1L << (BITS_OF_BALANCE * sign);
            }
            return sign == PAIR ? ofX + ofY : ofX - ofY;
        }

        int letterCount() {
            return letterCount;
        }

        int balanceOf(int atom) {
            long rest = balances;
            for (int a = 0; a < atom && a < ATOM_COUNT; a++) {
                // A byte below 0 has borrowed from those above it: that is given back.
                rest = (rest - (byte) rest) >> BITS_OF_BALANCE;
            }
            return (byte) rest;
        }

        int letterAt(int k) {
            return k >= 0 && k < letterCount && k < letters.length ? letters[k] : NO;
        }

        boolean hasStar() {
            return goal == NONE;
        }

        boolean hasTextOf(Kind other) {
            // Signs with their parts ahead of them tell a text wholly, without its brackets.
            if (nodeCount != other.nodeCount) {
                return false;
            }
            for (int n = 0; n < nodeCount && n < ROOM; n++) {
                if (signs[n] != other.signs[n]) {
                    return false;
                }
            }
            return true;
        }

        boolean hasLettersOf(Kind other) {
            if (letterCount != other.letterCount) {
                return false;
            }
            for (int k = 0; k < letterCount && k < letters.length; k++) {
                if (letters[k] != other.letters[k]) {
                    return false;
                }
            }
            return true;
        }

        /** Writes a node's LETTERS behind the first n of them: how many are left then. */
        private static int spell(Kind kind, int node, boolean undone, int n, int depth) {
            if (depth > MOST_OPEN) {
                return n;
            }
            int sign = kind.signs[node & MASK];
            if (sign < ATOM_COUNT) {
                return spellAtom(kind.letters, undone ? -1 - sign : 1 + sign, n);
            }
            int x = kind.resultNodes[node & MASK];
            int y = kind.argumentNodes[node & MASK];
            boolean yUndone = (sign != PAIR) != undone;
            // Y stands ahead of X in Y \ X; what is undone stands the other way about.
            if ((sign == UNDER) != undone) {
                return spell(kind, x, undone, spell(kind, y, yUndone, n, depth + 1), depth + 1);
            }
            return spell(kind, y, yUndone, spell(kind, x, undone, n, depth + 1), depth + 1);
        }

        private static int spellAtom(int[] letters, int letter, int n) {
            if (n > 0 && n <= letters.length && letters[n - 1] == -letter) {
                return n - 1;
            }
            if (n < 0 || n >= letters.length) {
                return n;
            }
            letters[n] = letter;
            return n + 1;
        }
    }

    /** THE TEXT, and the KIND that it tells. */
    private static final class KindText {
        private static final int ROOM = 80;
        private static final int NO_SIGN = 0;

        private final int[] bytes = new int[ROOM];
        private int used = 0;
        private final int[] signs = new int[Kind.ROOM];
        private final int[] resultNodes = new int[Kind.ROOM];
        private final int[] argumentNodes = new int[Kind.ROOM];
        private int nodeCount = 0;
        private int atomCount = 0;
        /** Of each ( that is open: the sign that has come by now, and the node ahead of it. */
        private final int[] openSigns = new int[Kind.MOST_OPEN];
        private final int[] openFirsts = new int[Kind.MOST_OPEN];
        private int openCount = 0;
        private boolean wantsKind = true;

        int length() {
            return used;
        }

        boolean hasRoomFor(int n) {
            return used + n <= ROOM;
        }

        void append(int value) {
            if (used >= 0 && used < bytes.length) {
                bytes[used] = value;
                used++;
            }
        }

        int empty() {
            int had = used;
            used = 0;
            return had;
        }

        /** The FAULT, or -1: then parsedKind() is what THE TEXT tells. */
        int findFault() {
            nodeCount = 0;
            atomCount = 0;
            openCount = 0;
            wantsKind = true;
            for (int p = 0; p < used && p < bytes.length; p++) {
                boolean fits = wantsKind ? startKind(bytes[p]) : goOn(bytes[p]);
                if (!fits) {
                    return p;
                }
            }
            return wantsKind || openCount > 0 ? used : -1;
        }

        Kind parsedKind() {
            return Kind.of(signs, resultNodes, argumentNodes, nodeCount);
        }

        private boolean startKind(int sign) {
            if (sign == '(') {
                if (openCount < 0 || openCount >= openSigns.length) {
                    return false;
                }
                openSigns[openCount] = NO_SIGN;
                openCount++;
                return true;
            }
            if (sign < 'a' || sign >= 'a' + Kind.ATOM_COUNT || atomCount >= Kind.MOST_ATOMS) {
                return false;
            }
            atomCount++;
            wantsKind = false;
            return appendNode(sign - 'a', 0, 0);
        }

        private boolean goOn(int sign) {
            int open = openCount - 1;
            if (open < 0 || open >= openSigns.length) {
                return false;
            }
            if (openSigns[open] != NO_SIGN) {
                return sign == ')' && close(open);
            }
            if (sign != '/' && sign != '\\' && sign != '*') {
                return false;
            }
            openSigns[open] = sign;
            openFirsts[open] = nodeCount - 1;
            wantsKind = true;
            return true;
        }

        private boolean close(int open) {
            if (open < 0 || open >= openSigns.length) {
                return false;
            }
            int firstPart = openFirsts[open];
            int lastPart = nodeCount - 1;
            openCount = open;
            switch (openSigns[open]) {
                case '/': return appendNode(Kind.OVER, firstPart, lastPart);
                case '\\': return appendNode(Kind.UNDER, lastPart, firstPart);
                default: return appendNode(Kind.PAIR, firstPart, lastPart);
            }
        }

        private boolean appendNode(int sign, int result, int argument) {
            if (nodeCount < 0 || nodeCount >= Kind.ROOM) {
                return false;
            }
            signs[nodeCount] = sign;
            resultNodes[nodeCount] = result;
            argumentNodes[nodeCount] = argument;
            nodeCount++;
            return true;
        }
    }

    /**
     * All parts of the KINDS of one question, numbered from 1. The same part has one number
     * wherever it stands, so that a row of numbers stands for all rows that look the same.
     */
    private static final class Nodes {
        /** 30 nodes at most: two KINDS or more with 16 ATOMS, or one with 12. */
        static final int ROOM = 32;
        static final int MASK = ROOM - 1;

        final int[] signs = new int[ROOM];
        final int[] resultNodes = new int[ROOM];
        final int[] argumentNodes = new int[ROOM];
        final int[] goals = new int[ROOM];
        final long[] balances = new long[ROOM];
        private final int[] numbers = new int[Kind.ROOM];
        private int used = 0;

        void empty() {
            used = 0;
        }

        /** The number of a whole KIND. */
        int plant(Kind kind) {
            int number = 0;
            for (int n = 0; n < kind.nodeCount && n < Kind.ROOM; n++) {
                boolean atom = kind.signs[n] < Kind.ATOM_COUNT;
                int x = atom ? 0 : numbers[kind.resultNodes[n] & Kind.MASK];
                int y = atom ? 0 : numbers[kind.argumentNodes[n] & Kind.MASK];
                number = numberOf(kind, n, x, y);
                numbers[n] = number;
            }
            return number;
        }

        long plantRow(Kind[] row, int length) {
            long packed = 0;
            for (int p = 0; p < length && p < row.length; p++) {
                packed = Packed.put(packed, p, plant(row[p]));
            }
            return packed;
        }

        long balanceOfRow(long row, int length) {
            long sum = 0;
            for (int p = 0; p < length && p < Packed.MOST; p++) {
                sum += balances[Packed.at(row, p) & MASK];
            }
            return sum;
        }

        private int numberOf(Kind kind, int node, int x, int y) {
            int from = node & Kind.MASK;
            for (int n = 1; n <= used && n < ROOM; n++) {
                if (signs[n] == kind.signs[from] && resultNodes[n] == x && argumentNodes[n] == y) {
                    return n;
                }
            }
            int n = used + 1;
            if (n < 1 || n >= ROOM) {
                return 0;
            }
            used = n;
            signs[n] = kind.signs[from];
            resultNodes[n] = x;
            argumentNodes[n] = y;
            goals[n] = kind.nodeGoals[from];
            balances[n] = kind.nodeBalances[from];
            return n;
        }
    }

    /** Rows of node numbers in one long, five bits a place, the first place lowest: no row is made. */
    private static final class Packed {
        /** With a goal beside it, such a row still fits into 60 bits. */
        static final int MOST = 11;
        private static final int BITS = 5;

        static int at(long row, int place) {
            return (int) (row >>> (BITS * place)) & Nodes.MASK;
        }

        static long put(long row, int place, int node) {
            return row | (long) (node & Nodes.MASK) << (BITS * place);
        }

        static long ahead(long row, int node) {
            return row << BITS | (node & Nodes.MASK);
        }

        static long part(long row, int from, int to) {
            return (row >>> (BITS * from)) & ((1L << (BITS * (to - from))) - 1);
        }

        /** The row with a middle of some length in place of what stands from .. to. */
        static long exchange(long row, int from, int to, long middle, int length) {
            long rest = (row >>> (BITS * to)) << (BITS * (from + length));
            return part(row, 0, from) | middle << (BITS * from) | rest;
        }

        static long withGoal(long row, int goal) {
            return ahead(row, goal);
        }
    }

    /** What is known of rows within one question; forgotten by a new number of the question. */
    private static final class Memo {
        private static final int SLOTS = 1 << 10;
        private static final int TRIES = 32;

        private final long[] keys = new long[SLOTS];
        private final int[] values = new int[SLOTS];
        private final int[] questions = new int[SLOTS];
        private int question = 0;

        void forget() {
            question++;
        }

        /** What was kept for a key; -1, if nothing. */
        int find(long key) {
            int slot = slotOf(key);
            for (int t = 0; t < TRIES; t++) {
                int s = (slot + t) & (SLOTS - 1);
                if (questions[s] != question) {
                    return -1;
                }
                if (keys[s] == key) {
                    return values[s];
                }
            }
            return -1;
        }

        /** Where there is no room, nothing is kept: that costs time, never an answer. */
        void keep(long key, int value) {
            int slot = slotOf(key);
            for (int t = 0; t < TRIES; t++) {
                int s = (slot + t) & (SLOTS - 1);
                if (questions[s] != question) {
                    questions[s] = question;
                    keys[s] = key;
                    values[s] = value;
                    return;
                }
            }
        }

        private static int slotOf(long key) {
            long mixed = key * 0x9E3779B97F4A7C15L;
            return (int) (mixed >>> 40) & (SLOTS - 1);
        }
    }

    /** PROOFS of a row by all the rules. */
    private static final class Prover {
        /** A rule takes one sign away, and 12 ATOMS have 11 at most. */
        private static final int DEEPEST = 12;

        private final Nodes nodes;
        private final Memo memo;
        private boolean full = true;
        private boolean onlyWhether = false;

        Prover(Nodes nodes, Memo memo) {
            this.nodes = nodes;
            this.memo = memo;
        }

        boolean proves(Kind[] row, int length, Kind goal, boolean full) {
            onlyWhether = true;
            return ask(row, length, goal, full) > 0;
        }

        int countOfProofs(Kind[] row, int length, Kind goal, boolean full) {
            onlyWhether = false;
            return (int) ask(row, length, goal, full);
        }

        private long ask(Kind[] row, int length, Kind goal, boolean full) {
            this.full = full;
            nodes.empty();
            memo.forget();
            int goalNode = nodes.plant(goal);
            return prove(nodes.plantRow(row, length), length, goalNode, 0);
        }

        private long prove(long row, int n, int goal, int depth) {
            if (depth > DEEPEST || n > Packed.MOST || (full && n == 0)) {
                return 0;
            }
            // Every rule keeps the BALANCE of the row that of the goal.
            if (nodes.balanceOfRow(row, n) != nodes.balances[goal & Nodes.MASK]) {
                return 0;
            }
            long key = Packed.withGoal(row, goal);
            int known = memo.find(key);
            if (known >= 0) {
                return known;
            }
            long ways = proveByGoal(row, n, goal, depth);
            for (int p = 0; p < n && !isEnough(ways); p++) {
                ways = plus(ways, proveByPlace(row, n, goal, p, depth));
            }
            memo.keep(key, (int) ways);
            return ways;
        }

        private long proveByGoal(long row, int n, int goal, int depth) {
            int x = nodes.resultNodes[goal & Nodes.MASK];
            int y = nodes.argumentNodes[goal & Nodes.MASK];
            switch (nodes.signs[goal & Nodes.MASK]) {
                case Kind.OVER: return prove(Packed.put(row, n, y), n + 1, x, depth + 1);
                case Kind.UNDER: return prove(Packed.ahead(row, y), n + 1, x, depth + 1);
                case Kind.PAIR: return proveParts(row, n, x, y, depth);
                default: return n == 1 && Packed.at(row, 0) == goal ? 1 : 0;
            }
        }

        private long proveParts(long row, int n, int x, int y, int depth) {
            long ways = 0;
            for (int cut = 0; cut <= n && !isEnough(ways); cut++) {
                long firsts = prove(Packed.part(row, 0, cut), cut, x, depth + 1);
                if (firsts > 0) {
                    long seconds = prove(Packed.part(row, cut, n), n - cut, y, depth + 1);
                    ways = plus(ways, times(firsts, seconds));
                }
            }
            return ways;
        }

        private long proveByPlace(long row, int n, int goal, int p, int depth) {
            int node = Packed.at(row, p) & Nodes.MASK;
            int sign = nodes.signs[node];
            if (sign == Kind.PAIR) {
                long both = Packed.put(nodes.resultNodes[node], 1, nodes.argumentNodes[node]);
                return prove(Packed.exchange(row, p, p + 1, both, 2), n + 1, goal, depth + 1);
            }
            long ways = 0;
            if (sign == Kind.OVER) {
                for (int to = p + 1; to <= n && !isEnough(ways); to++) {
                    ways = plus(ways, proveUse(row, n, goal, p, to, depth));
                }
            } else if (sign == Kind.UNDER) {
                for (int from = 0; from <= p && !isEnough(ways); from++) {
                    ways = plus(ways, proveUse(row, n, goal, p, from, depth));
                }
            }
            return ways;
        }

        /** The KIND at p takes what stands between it and the bound of what it wants. */
        private long proveUse(long row, int n, int goal, int p, int bound, int depth) {
            int node = Packed.at(row, p) & Nodes.MASK;
            boolean behind = bound > p;
            int from = behind ? p + 1 : bound;
            int to = behind ? bound : p;
            long wanted = prove(Packed.part(row, from, to), to - from, nodes.argumentNodes[node], depth + 1);
            if (wanted == 0) {
                return 0;
            }
            int first = behind ? p : from;
            int end = behind ? to : p + 1;
            long used = Packed.exchange(row, first, end, nodes.resultNodes[node], 1);
            return times(wanted, prove(used, n - (to - from), goal, depth + 1));
        }

        private boolean isEnough(long ways) {
            return onlyWhether && ways > 0;
        }

        // Whether there is a way is not told by a number that may have come round to 0.
        private long plus(long a, long b) {
            return onlyWhether ? Math.max(a, b) : (a + b) % MODULUS;
        }

        private long times(long a, long b) {
            return onlyWhether ? Math.min(a, b) : a * b % MODULUS;
        }
    }

    /** MEANINGS of a row: its normal ways. */
    private static final class MeaningSearch {
        /** A level goes to a goal, to a head or over a sign: 8, 8 and 14 of these at most. */
        private static final int DEEPEST = 40;

        private final Nodes nodes;
        private final Memo memo;
        private boolean full = true;

        MeaningSearch(Nodes nodes, Memo memo) {
            this.nodes = nodes;
            this.memo = memo;
        }

        static boolean allows(Kind[] row, int length, Kind goal) {
            boolean starred = goal.hasStar();
            for (int p = 0; p < length && p < row.length; p++) {
                starred = starred || row[p].hasStar();
            }
            return !starred && Kind.atomsOf(row, length) + goal.size <= MEANING_ATOMS;
        }

        /** None at all of a row that may not be asked: the lists count such a choice as none. */
        int countOfMeanings(Kind[] row, int length, Kind goal, boolean full) {
            if (!allows(row, length, goal) || !isBalanced(row, length, goal)) {
                return 0;
            }
            int goalNode = open(goal, full);
            return (int) mean(nodes.plantRow(row, length), length, goalNode, 0);
        }

        int setOfHeads(Kind[] row, int length, Kind goal, boolean full) {
            if (!isBalanced(row, length, goal)) {
                return 0;
            }
            int goalNode = open(goal, full);
            long packed = nodes.plantRow(row, length);
            int set = 0;
            for (int p = 0; p < length && p < Packed.MOST; p++) {
                set |= meanByHead(packed, length, goalNode, p, 0) > 0 ? 1 << p : 0;
            }
            return set;
        }

        /**
         * Ahead of the search, since only a balanced row is sure to fit: its ATOMS are wanted and
         * offered in pairs, so 16 of them make 8 KINDS at most that can stand in a row at once.
         */
        private static boolean isBalanced(Kind[] row, int length, Kind goal) {
            long sum = 0;
            for (int p = 0; p < length && p < row.length; p++) {
                sum += row[p].balances;
            }
            return sum == goal.balances;
        }

        private int open(Kind goal, boolean full) {
            this.full = full;
            nodes.empty();
            memo.forget();
            return nodes.plant(goal);
        }

        private long mean(long row, int n, int goal, int depth) {
            if (depth > DEEPEST || (full && n == 0)) {
                return 0;
            }
            if (nodes.balanceOfRow(row, n) != nodes.balances[goal & Nodes.MASK]) {
                return 0;
            }
            int left = goal & Nodes.MASK;
            long whole = row;
            int length = n;
            for (int step = 0; step < Nodes.ROOM && nodes.signs[left] >= Kind.ATOM_COUNT; step++) {
                if (length < 0 || length >= Packed.MOST) {
                    return 0;
                }
                int wanted = nodes.argumentNodes[left];
                whole = nodes.signs[left] == Kind.OVER
                    ? Packed.put(whole, length, wanted) : Packed.ahead(whole, wanted);
                length++;
                left = nodes.resultNodes[left] & Nodes.MASK;
            }
            return meanAtom(whole, length, left, depth);
        }

        private long meanAtom(long row, int n, int atom, int depth) {
            long key = Packed.withGoal(row, atom);
            int known = memo.find(key);
            if (known >= 0) {
                return known;
            }
            long ways = 0;
            for (int p = 0; p < n && p < Packed.MOST; p++) {
                ways = (ways + meanByHead(row, n, atom, p, depth)) % MODULUS;
            }
            memo.keep(key, (int) ways);
            return ways;
        }

        private long meanByHead(long row, int n, int atom, int p, int depth) {
            int head = Packed.at(row, p) & Nodes.MASK;
            if (nodes.goals[head] != nodes.goals[atom & Nodes.MASK]) {
                return 0;
            }
            return useUp(row, n, head, p, p + 1, depth + 1);
        }

        /** The ways to go on from a head that has from .. to by now and is this node still. */
        private long useUp(long row, int n, int node, int from, int to, int depth) {
            if (depth > DEEPEST) {
                return 0;
            }
            int x = nodes.resultNodes[node & Nodes.MASK];
            int y = nodes.argumentNodes[node & Nodes.MASK];
            long ways = 0;
            switch (nodes.signs[node & Nodes.MASK]) {
                case Kind.OVER:
                    for (int end = to; end <= n; end++) {
                        long wanted = mean(Packed.part(row, to, end), end - to, y, depth + 1);
                        if (wanted > 0) {
                            ways += wanted * useUp(row, n, x, from, end, depth + 1) % MODULUS;
                        }
                    }
                    return ways % MODULUS;
                case Kind.UNDER:
                    for (int start = 0; start <= from; start++) {
                        long wanted = mean(Packed.part(row, start, from), from - start, y, depth + 1);
                        if (wanted > 0) {
                            ways += wanted * useUp(row, n, x, start, to, depth + 1) % MODULUS;
                        }
                    }
                    return ways % MODULUS;
                default:
                    return from == 0 && to == n ? 1 : 0;
            }
        }
    }

    /** Rows of WORDS, and the KINDS that can be chosen for them. */
    private static final class Reader {
        private static final int CHOICES_MOST = 729;

        private final MeaningSearch search;
        private final Kind[] kinds = new Kind[KIND_COUNT];
        /** Of each WORD the numbers of its KINDS, the lowest first. */
        private final int[][] options = new int[WORD_COUNT][KINDS_OF_WORD];
        private final int[] optionCounts = new int[WORD_COUNT];
        /** Of each place: which of its WORD's KINDS is chosen, and the KIND itself. */
        private final int[] picks = new int[SENTENCE_MOST];
        private final Kind[] chosen = new Kind[SENTENCE_MOST];
        /** Of each place the BALANCE of all that is chosen ahead of it. */
        private final long[] balancesAhead = new long[SENTENCE_MOST + 1];
        private final int[] tried = new int[ROWS_LENGTH_MOST];
        private Kind goal;
        private boolean full = true;

        Reader(MeaningSearch search) {
            this.search = search;
            goal = Kind.ofAtom(0);
            for (int i = 0; i < kinds.length; i++) {
                kinds[i] = goal;
            }
            for (int p = 0; p < chosen.length; p++) {
                chosen[p] = goal;
            }
        }

        /** KINDS and sets are taken as they are now. */
        void open(Kind[] nowKinds, int[] sets, Kind goal, boolean full) {
            this.goal = goal;
            this.full = full;
            for (int i = 0; i < kinds.length && i < nowKinds.length; i++) {
                kinds[i] = nowKinds[i];
            }
            for (int w = 0; w < WORD_COUNT && w < sets.length; w++) {
                int n = 0;
                for (int i = 0; i < KIND_COUNT && n < KINDS_OF_WORD; i++) {
                    if ((sets[w] >> i & 1) == 1) {
                        options[w][n] = i;
                        n++;
                    }
                }
                optionCounts[w] = n;
            }
        }

        int countOfReadings(int[] words, int length) {
            int readings = 0;
            boolean more = chooseFirst(words, length);
            for (int c = 0; more && c < CHOICES_MOST; c++) {
                readings += isBalanced(length) && search.countOfMeanings(chosen, length, goal, full) > 0 ? 1 : 0;
                more = chooseNext(words, length);
            }
            return readings;
        }

        int sumOfMeanings(int[] words, int length) {
            long sum = 0;
            boolean more = chooseFirst(words, length);
            for (int c = 0; more && c < CHOICES_MOST; c++) {
                sum += isBalanced(length) ? search.countOfMeanings(chosen, length, goal, full) : 0;
                more = chooseNext(words, length);
            }
            return (int) (sum % MODULUS);
        }

        /** Whether there is a choice that can be read: the first one stays chosen. */
        boolean findReading(int[] words, int length) {
            boolean more = chooseFirst(words, length);
            for (int c = 0; more && c < CHOICES_MOST; c++) {
                if (isBalanced(length) && search.countOfMeanings(chosen, length, goal, full) > 0) {
                    return true;
                }
                more = chooseNext(words, length);
            }
            return false;
        }

        /** The number of the KIND that is chosen at a place. */
        int kindNumberAt(int[] words, int place) {
            if (place < 0 || place >= words.length || place >= picks.length) {
                return NONE;
            }
            int pick = picks[place];
            return pick >= 0 && pick < KINDS_OF_WORD ? options[words[place] & (WORD_COUNT - 1)][pick] : NONE;
        }

        int countOfReadableRows(int length) {
            int rows = countOfRows(length);
            int readable = 0;
            for (int r = 0; r < rows; r++) {
                tryRow(r, length);
                readable += findReading(tried, length) ? 1 : 0;
            }
            return readable;
        }

        /** How many WORDS have to change; -1, if no change helps. */
        int findNearestRow(int[] words, int length) {
            int rows = countOfRows(length);
            for (int changes = 0; changes <= length && changes <= ROWS_LENGTH_MOST; changes++) {
                for (int r = 0; r < rows; r++) {
                    tryRow(r, length);
                    if (changesOf(words, length) == changes && findReading(tried, length)) {
                        return changes;
                    }
                }
            }
            return -1;
        }

        int wordOfNearestRow(int k) {
            return k >= 0 && k < tried.length ? tried[k] : NONE;
        }

        /** Every WORD is its KIND of the lowest number; false, if one may be nothing. */
        private boolean chooseFirst(int[] words, int length) {
            for (int p = 0; p < length && p < words.length && p < picks.length; p++) {
                picks[p] = 0;
                if (optionCounts[words[p] & (WORD_COUNT - 1)] == 0) {
                    return false;
                }
            }
            takeFrom(words, length, 0);
            return true;
        }

        /** The choice behind this one, the last WORD's KIND counting on first; false, if there is none. */
        private boolean chooseNext(int[] words, int length) {
            for (int p = Math.min(length, picks.length) - 1; p >= 0 && p < words.length; p--) {
                if (picks[p] + 1 < optionCounts[words[p] & (WORD_COUNT - 1)]) {
                    picks[p]++;
                    takeFrom(words, length, p);
                    return true;
                }
                picks[p] = 0;
            }
            return false;
        }

        private void takeFrom(int[] words, int length, int from) {
            for (int p = Math.max(from, 0); p < length && p < chosen.length; p++) {
                int i = kindNumberAt(words, p);
                if (i >= 0 && i < kinds.length) {
                    chosen[p] = kinds[i];
                }
                balancesAhead[p + 1] = balancesAhead[p] + chosen[p].balances;
            }
        }

        /** Most choices are not, and need no search. */
        private boolean isBalanced(int length) {
            return length >= 0 && length < balancesAhead.length && balancesAhead[length] == goal.balances;
        }

        private static int countOfRows(int length) {
            int rows = 1;
            for (int p = 0; p < length && p < ROWS_LENGTH_MOST; p++) {
                rows *= WORD_COUNT;
            }
            return rows;
        }

        private void tryRow(int number, int length) {
            int rest = number;
            for (int p = Math.min(length, tried.length) - 1; p >= 0; p--) {
                tried[p] = Math.floorMod(rest, WORD_COUNT);
                rest /= WORD_COUNT;
            }
        }

        private int changesOf(int[] words, int length) {
            int changes = 0;
            for (int p = 0; p < length && p < tried.length && p < words.length; p++) {
                changes += tried[p] != words[p] ? 1 : 0;
            }
            return changes;
        }
    }
}
