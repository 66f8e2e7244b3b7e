/**
 * The boundary cases of "Terms" 1 and of promises 1 to 8, a test for each sentence that names one, in
 * the document's order. What a refused call leaves as it was is told whole by RefusalEdges.
 */
public final class KindEdges {
    private static final int BAD = -1;
    private static final int FULL = -3;
    private static final int NONE = -9;
    private static final int NO = -1000000;
    private static final int[] BELOW_AND_ABOVE_KINDS = {-1, 12, Integer.MIN_VALUE, Integer.MAX_VALUE};
    /** 12 ATOMS, 45 bytes: no whole text is longer. */
    private static final String LONGEST = "(((a/b)*(c\\d))/((e*f)\\((g/h)*((a*b)/(c*d)))))";

    public static void main(String[] args) {
        call512IsStillAnswered();
        eightyBytesAtMost();
        byteByByteWithoutBlanks();
        atomsAreAToH();
        signsWithinBrackets();
        twelveAtomsAtMost();
        sixOpenAtATime();
        faultOfWhatEndsTooEarly();
        faultOfAByteBehindAWholeOne();
        kindsZeroToEleven();
        eachTheAtomAAtFirst();
        sizeFromOneToTwelve();
        orderIsTheGreater();
        goalOfAKindWithoutStar();
        balanceOfItselfAndOfOthers();
        lettersGoTillNoneIs();
        alikeWithTheSameLetters();
        typeOneToEightBytes();
        typeTheLowestBytesTheHighestFirst();
        typeBadAheadOfFull();
        clearTellsHowMany();
        readEmptiesTheText();
        readLessFault();
        aboutZeroToThree();
        balanceOfAtomsZeroToSeven();
        letterOfThoseThatAreLeft();
        alikeSameZeroOrOne();
        Check.end("KindEdges");
    }

    private static void due(String call, long got, long want) {
        Check.due(call, got, want);
    }

    private static SlashKinds withText(String text) {
        SlashKinds x = new SlashKinds();
        Check.type(x, text);
        return x;
    }

    private static SlashKinds withKind(String text) {
        SlashKinds x = new SlashKinds();
        Check.kind(x, 0, text);
        return x;
    }

    /** A FAULT at a place, THE TEXT and the KIND as they were. */
    private static void fault(String text, int place) {
        SlashKinds x = withKind("(h/g)");
        Check.type(x, text);
        due("FAULT of " + text, x.read(0), -10 - place);
        due("THE TEXT stays " + text, x.count(2), text.length());
        due("the KIND stays, SIZE, " + text, x.about(0, 0), 2);
        due("the KIND stays, GOAL, " + text, x.about(0, 2), 7);
    }

    private static void whole(String text, int size) {
        SlashKinds x = withText(text);
        due("read of " + text, x.read(11), size);
        due("THE TEXT is empty behind " + text, x.count(2), 0);
    }

    private static String bytes(int n) {
        return "a".repeat(n);
    }

    // "An object is used for at most 512 calls after it has been made".
    private static void call512IsStillAnswered() {
        SlashKinds x = new SlashKinds();
        for (int call = 1; call < 512; call++) {
            due("call " + call, x.type('b', 1), call <= 80 ? call : FULL);
        }
        due("call 512 of type", x.count(2), 80);
        x = new SlashKinds();
        for (int call = 1; call < 511; call += 2) {
            x.type('a' + call / 2 % 8, 1);
            due("read, call " + (call + 1), x.read(call % 12), 1);
        }
        x.add(9);
        due("call 512 of read", x.is(9, 0), 1);
        x = new SlashKinds();
        x.add(0);
        for (int call = 2; call < 512; call++) {
            due("is, call " + call, x.is(call % 12, call % 2), 1);
        }
        due("call 512 of is", x.proofs(11, 1), 1);
        x = new SlashKinds();
        for (int w = 0; w < 4; w++) {
            x.word(w, 1 << w | 1 << (w + 4) | 1 << (w + 8));
        }
        for (int call = 5; call < 512; call++) {
            due("rows, call " + call, x.rows(call % 12, call % 2, 1 + call % 3), 1 + call % 3 == 1 ? 4 : 0);
        }
        due("call 512 of rows", x.rows(11, 1, 1), 4);
        // Other KINDS in every question.
        x = new SlashKinds();
        for (int turn = 0; turn < 102; turn++) {
            int i = turn % 12;
            long ahead = 'a' + turn % 8;
            long behind = 'a' + turn / 8 % 8;
            due("type, turn " + turn, x.type((long) '(' << 32 | ahead << 24 | '\\' << 16 | behind << 8 | ')', 5), 5);
            due("read, turn " + turn, x.read(i), 2);
            due("wipe, turn " + turn, x.wipe(), turn > 0 ? 1 : 0);
            due("add, turn " + turn, x.add(i), 1);
            due("is, turn " + turn, x.is(i, turn % 2), 1);
        }
        due("call 511 of many KINDS", x.proofs(5, 0), 1);
        due("call 512 of many KINDS", x.is(6, 0), 0);
    }

    // "KINDS are told by a text (80 bytes at most"; type: "FULL".
    private static void eightyBytesAtMost() {
        for (int n = 1; n <= 8; n++) {
            SlashKinds x = withText(bytes(80 - n));
            due("type the last " + n, x.type(0, n), 80);
            due("type one more", x.type(0, 1), FULL);
            due("80 bytes", x.count(2), 80);
            x = withText(bytes(81 - n));
            due("type " + n + " with room for one less", x.type(0, n), FULL);
            due("none of them came", x.count(2), 81 - n);
            due("one less comes", n > 1 ? x.type(0, n - 1) : x.count(2), 80);
            due("BAD is no FULL", x.type(0, 9), BAD);
        }
        fault(LONGEST + " ".repeat(35), 45);
        SlashKinds x = withText(bytes(80));
        due("clear of 80", x.clear(), 80);
        due("type behind it", x.type('c', 1), 1);
        due("read of what came", x.read(5), 1);
        due("GOAL of it", x.about(5, 2), 2);
    }

    // "read byte by byte, without blanks".
    private static void byteByByteWithoutBlanks() {
        String text = "((a/b)\\(c*d))";
        whole(text, 4);
        for (int p = 0; p <= text.length(); p++) {
            fault(text.substring(0, p) + " " + text.substring(p), p);
            fault(text.substring(0, p) + "\t" + text.substring(p), p);
            fault(text.substring(0, p) + "\u0000" + text.substring(p), p);
        }
    }

    // "an ATOM a .. h".
    private static void atomsAreAToH() {
        for (char atom = 'a'; atom <= 'h'; atom++) {
            SlashKinds x = withKind(String.valueOf(atom));
            due("GOAL of " + atom, x.about(0, 2), atom - 'a');
            due("LETTER of " + atom, x.letter(0, 0), atom - 'a' + 1);
        }
        for (int other = 0; other < 256; other++) {
            if ((other < 'a' || other > 'h') && other != '(') {
                String one = String.valueOf((char) other);
                faultOnly(one, 0);
                faultOnly("(" + one, 1);
                faultOnly("(a/" + one, 3);
                faultOnly("((a*b)\\" + one, 7);
            }
        }
    }

    private static void faultOnly(String text, int place) {
        due("FAULT of byte " + (int) text.charAt(place) + " at " + place, withText(text).read(0), -10 - place);
    }

    // "( X / Y )", "( Y \ X )", "( X * Y )".
    private static void signsWithinBrackets() {
        for (int other = 0; other < 256; other++) {
            String one = String.valueOf((char) other);
            if ("/\\*".indexOf(other) < 0) {
                faultOnly("(a" + one, 2);
                faultOnly("((a/b)" + one, 6);
            } else {
                due("ends too early behind " + one, withText("(a" + one).read(0), -13);
            }
            if (other != ')') {
                faultOnly("(a/b" + one, 4);
                faultOnly("(a*(b\\c)" + one, 8);
            }
        }
        fault("()", 1);
        fault("(a)", 2);
        fault("(a/b/c)", 4);
    }

    private static String nested(int atoms) {
        return atoms == 1 ? "a" : "(" + nested(atoms / 2) + "*" + nested(atoms - atoms / 2) + ")";
    }

    private static int placeOfAtom(String text, int number) {
        int seen = 0;
        for (int p = 0; p < text.length(); p++) {
            seen += Character.isLetter(text.charAt(p)) ? 1 : 0;
            if (seen == number) {
                return p;
            }
        }
        return text.length();
    }

    // "12 ATOMS at most", "the place of the first byte that can't stand there (a 13th ATOM".
    private static void twelveAtomsAtMost() {
        whole(nested(11), 11);
        whole(nested(12), 12);
        whole(LONGEST, 12);
        for (int atoms = 13; atoms <= 16; atoms++) {
            fault(nested(atoms), placeOfAtom(nested(atoms), 13));
        }
        fault("(" + LONGEST + "/h)", 47);
        fault("(h\\" + LONGEST + ")", 3 + placeOfAtom(LONGEST, 12));
        // Ahead of the 13th ATOM nothing is at fault: a text that stops there only ends too early.
        fault("(" + LONGEST + "/", 47);
        fault("(" + LONGEST + "/(", 48);
        fault("(" + LONGEST + "/(b", 48);
    }

    // "6 ( open at a time", "the place of the first byte that can't stand there (.. a seventh ( too)".
    private static void sixOpenAtATime() {
        whole("((((((a/b)\\c)*d)/e)\\f)*g)", 7);
        whole("(a/(b\\(c*(d/(e\\(f*g))))))", 7);
        fault("(((((((a/b)\\c)*d)/e)\\f)*g)/h)", 6);
        fault("(a/(b\\(c*(d/(e\\(f*(g/h)))))))", 18);
        fault("(((((((", 6);
        fault("((((((", 6);
        fault("((((((a/(", 8);
        // What is closed is open no more: a sixth may come again, a seventh not.
        whole("((((((a/b)/(c/d))/e)/f)/g)/h)", 8);
        fault("((((((a/b)/(", 12);
        fault("((((((a/b)/((", 12);
        fault("((((((a/b)/c)/((", 16);
        fault("((((((a/b)/c)/(((", 16);
    }

    // "the text's length, if it ends too early".
    private static void faultOfWhatEndsTooEarly() {
        String[] texts = {"a", "(a/b)", "((a\\b)*(c/d))", LONGEST, nested(12), "((((((a/b)\\c)*d)/e)\\f)*g)"};
        for (String text : texts) {
            for (int end = 0; end < text.length(); end++) {
                fault(text.substring(0, end), end);
            }
        }
        due("FAULT of no text", new SlashKinds().read(0), -10);
    }

    // "a byte behind a whole one".
    private static void faultOfAByteBehindAWholeOne() {
        for (String text : new String[] {"h", "(a/b)", "((a\\b)*(c/d))", LONGEST}) {
            for (char more : "a(/\\*) \u0000\u00ff".toCharArray()) {
                fault(text + more, text.length());
                fault(text + more + "/b)", text.length());
            }
        }
    }

    // "KINDS 0 .. 11"; "BAD" of read, about, alike, "NO: BAD" of balance, letter.
    private static void kindsZeroToEleven() {
        SlashKinds x = new SlashKinds();
        for (int i : new int[] {0, 11}) {
            due("type", x.type('h', 1), 1);
            due("read(" + i + ")", x.read(i), 1);
            due("about(" + i + ", 2)", x.about(i, 2), 7);
            due("balance(" + i + ", 7)", x.balance(i, 7), 1);
            due("letter(" + i + ", 0)", x.letter(i, 0), 8);
        }
        due("alike(0, 11, 0)", x.alike(0, 11, 0), 1);
        due("alike(11, 0, 1)", x.alike(11, 0, 1), 1);
        due("alike(11, 1, 1)", x.alike(11, 1, 1), 0);
        x.type('b', 1);
        for (int i : BELOW_AND_ABOVE_KINDS) {
            due("read(" + i + ")", x.read(i), BAD);
            due("about(" + i + ", 0)", x.about(i, 0), BAD);
            due("balance(" + i + ", 0)", x.balance(i, 0), NO);
            due("letter(" + i + ", 0)", x.letter(i, 0), NO);
            due("alike(" + i + ", 0, 0)", x.alike(i, 0, 0), BAD);
            due("alike(0, " + i + ", 0)", x.alike(0, i, 0), BAD);
            due("alike(11, " + i + ", 1)", x.alike(11, i, 1), BAD);
        }
        due("THE TEXT stays", x.count(2), 1);
    }

    // "(each the ATOM a at first)"; promise 1.
    private static void eachTheAtomAAtFirst() {
        SlashKinds x = new SlashKinds();
        for (int i = 0; i < 12; i++) {
            due("SIZE of " + i, x.about(i, 0), 1);
            due("ORDER of " + i, x.about(i, 1), 0);
            due("GOAL of " + i, x.about(i, 2), 0);
            due("LETTERS of " + i, x.about(i, 3), 1);
            due("LETTER 0 of " + i, x.letter(i, 0), 1);
            due("BALANCE of a of " + i, x.balance(i, 0), 1);
            due("BALANCE of b of " + i, x.balance(i, 1), 0);
        }
        Check.kind(x, 5, "a");
        due("the same text as one that was read", x.alike(0, 5, 1), 1);
        due("no text", x.count(2), 0);
        due("no row", x.count(0), 0);
        due("no ATOMS", x.count(3), 0);
        due("no sentence", x.count(1), 0);
    }

    // "SIZE: how many ATOMS stand in it".
    private static void sizeFromOneToTwelve() {
        for (int atoms = 1; atoms <= 12; atoms++) {
            due("SIZE " + atoms, withKind(nested(atoms)).about(0, 0), atoms);
        }
    }

    private static void order(String text, int want) {
        due("ORDER of " + text, withKind(text).about(0, 1), want);
    }

    // "ORDER: 0 of an ATOM; of X / Y, Y \ X the greater of ORDER of X, and ORDER of Y and 1; of X * Y the greater one".
    private static void orderIsTheGreater() {
        order("a", 0);
        order("h", 0);
        order("(a/b)", 1);
        order("(b\\a)", 1);
        order("(a*b)", 0);
        // ORDER of X is less, the same, greater than ORDER of Y and 1.
        order("(a/(b/c))", 2);
        order("((a/b)/c)", 1);
        order("((a/(b/c))/d)", 2);
        order("((b/c)\\a)", 2);
        order("(c\\(a/b))", 1);
        order("(d\\(a/(b/c)))", 2);
        order("((a/(b/c))/(b/c))", 2);
        order("((a/(b/c))/(d/(b/c)))", 3);
        order("((a/b)*c)", 1);
        order("(c*(a/b))", 1);
        order("((a/b)*(c/d))", 1);
        order("(a/(b*c))", 1);
        order("(a/((b/c)*d))", 2);
        // Six brackets are the most that can be open: no ORDER is above 6.
        order("(a/(b/(c/(d/(e/(f/g))))))", 6);
        order("((((((g\\f)\\e)\\d)\\c)\\b)\\a)", 6);
        order("((((((a/b)/c)/d)/e)/f)/g)", 1);
        order(nested(12), 0);
    }

    private static void goal(String text, int want) {
        due("GOAL of " + text, withKind(text).about(0, 2), want);
    }

    // "GOAL of a KIND without *"; about: "2 GOAL (0 .. 7; NONE: there is a *)".
    private static void goalOfAKindWithoutStar() {
        goal("a", 0);
        goal("h", 7);
        goal("(h/a)", 7);
        goal("(h\\a)", 0);
        goal("((((((h/b)/c)/d)/e)/f)/g)", 7);
        goal("(g\\(f\\(e\\(d\\(c\\(b\\h))))))", 7);
        goal("(a*b)", NONE);
        goal("((a*b)/c)", NONE);
        goal("(c\\(a*b))", NONE);
        goal("(h/(a*b))", NONE);
        goal("((a*b)\\h)", NONE);
        goal("((h/(c/(a*b)))/d)", NONE);
        goal("(a/(b/(c/(d/(e/(f*g))))))", NONE);
        goal("((((((a*b)/c)/d)/e)/f)/g)", NONE);
    }

    // "BALANCE of an ATOM: of itself 1, of others 0; of X / Y, Y \ X that of X less that of Y; of X * Y both".
    private static void balanceOfItselfAndOfOthers() {
        for (char of = 'a'; of <= 'h'; of++) {
            SlashKinds x = withKind(String.valueOf(of));
            for (int atom = 0; atom < 8; atom++) {
                due("BALANCE of " + of + " in " + atom, x.balance(0, atom), of - 'a' == atom ? 1 : 0);
            }
        }
        // The most and the least that 12 ATOMS can be, at the first ATOM and at the last one.
        for (char of : new char[] {'a', 'b', 'g', 'h'}) {
            String all = nested(12).replace('a', of);
            String eleven = nested(11).replace('a', of);
            char other = of == 'h' ? 'a' : (char) (of + 1);
            balances(all, of, 12, other, 0);
            balances("(" + other + "/" + eleven + ")", of, -11, other, 1);
            balances("(" + eleven + "\\" + other + ")", of, -11, other, 1);
            balances("(" + other + "*" + eleven + ")", of, 11, other, 1);
            balances("(" + eleven + "/" + other + ")", of, 11, other, -1);
            balances("(" + of + "/" + of + ")", of, 0, other, 0);
        }
    }

    private static void balances(String text, char one, int ofOne, char other, int ofOther) {
        SlashKinds x = withKind(text);
        for (int atom = 0; atom < 8; atom++) {
            int want = atom == one - 'a' ? ofOne : atom == other - 'a' ? ofOther : 0;
            due("BALANCE of " + (char) ('a' + atom) + " in " + text, x.balance(0, atom), want);
        }
    }

    private static void letters(String text, int... want) {
        SlashKinds x = withKind(text);
        due("how many LETTERS of " + text, x.about(0, 3), want.length);
        for (int k = 0; k < want.length; k++) {
            due("LETTER " + k + " of " + text, x.letter(0, k), want[k]);
        }
        due("LETTER behind those of " + text, x.letter(0, want.length), NO);
    }

    // "a letter beside itself undone goes with it, till none is".
    private static void lettersGoTillNoneIs() {
        // The letter ahead, and the letter undone ahead.
        letters("(a/a)");
        letters("(a\\a)");
        letters("(h/h)");
        letters("(h\\h)");
        letters("(a*a)", 1, 1);
        letters("(a/b)", 1, -2);
        letters("(a\\h)", -1, 8);
        // Those that come to stand side by side go too: one more, all.
        letters("((a/b)*(b/c))", 1, -3);
        letters("((a/b)*(b/a))");
        letters("(((a/b)/c)*(c*(b/d)))", 1, -4);
        letters("((a*(b*(c*(d*(e*f)))))/(a*(b*(c*(d*(e*f))))))");
        letters("((a*(b*(c*(d*(e*f)))))\\(a*(b*(c*(d*(e*f))))))");
        letters("((a*(b*(c*(d*(e*f)))))/(h*(b*(c*(d*(e*f))))))", 1, -8);
        // What stands between two of them keeps both; the other way about, each undone.
        letters("(a*(b/a))", 1, 2, -1);
        letters("(a/(b*c))", 1, -3, -2);
        letters("((b*c)\\a)", -3, -2, 1);
        letters("(a/(b*a))", -2);
        letters("((a*b)\\a)", -2);
        letters("((b*a)\\a)", -1, -2, 1);
        // All twelve are left.
        letters(nested(12), 1, 1, 1, 1, 1, 1, 1, 1, 1, 1, 1, 1);
        letters("(b\\" + nested(11) + ")", -2, 1, 1, 1, 1, 1, 1, 1, 1, 1, 1, 1);
        letters("(" + nested(11) + "/b)", 1, 1, 1, 1, 1, 1, 1, 1, 1, 1, 1, -2);
    }

    private static void likeness(String one, String other, int alike, int same) {
        SlashKinds x = withKind(one);
        Check.kind(x, 11, other);
        for (int turn = 0; turn < 2; turn++) {
            int i = turn == 0 ? 0 : 11;
            due(one + " ALIKE " + other, x.alike(i, 11 - i, 0), alike);
            due(one + " the same text as " + other, x.alike(i, 11 - i, 1), same);
            due("ALIKE itself", x.alike(i, i, 0), 1);
            due("the same text as itself", x.alike(i, i, 1), 1);
        }
    }

    // "ALIKE are two KINDS with the same LETTERS".
    private static void alikeWithTheSameLetters() {
        likeness("a", "a", 1, 1);
        likeness("a", "b", 0, 0);
        // No LETTERS are the same as no LETTERS.
        likeness("(a/a)", "(h\\h)", 1, 0);
        likeness("(a/a)", "a", 0, 0);
        // The same at first, but one has more; the same but the first, the last.
        likeness("(a*b)", "(a*(b*c))", 0, 0);
        likeness("((a*b)*c)", "((d*b)*c)", 0, 0);
        likeness("((a*b)*c)", "((a*b)*d)", 0, 0);
        likeness("(a*b)", "(a/b)", 0, 0);
        likeness("((a*b)*c)", "(a*(b*c))", 1, 0);
        likeness(nested(12), "(((((a*a)*(a*a))*a)*a)*((a*a)*((a*a)*(a*a))))", 1, 0);
        likeness(nested(12), nested(11), 0, 0);
        int last = nested(12).lastIndexOf('a');
        likeness(nested(12), nested(12).substring(0, last) + "b" + nested(12).substring(last + 1), 0, 0);
        likeness(nested(12), nested(12), 1, 1);
        // What was read in between is no matter.
        SlashKinds x = withKind("(a/b)");
        Check.kind(x, 1, nested(12));
        Check.kind(x, 2, "(a/b)");
        due("the same text as two KINDS ago", x.alike(0, 2, 1), 1);
        due("ALIKE two KINDS ago", x.alike(0, 2, 0), 1);
        Check.kind(x, 3, "(((c\\d)/e)*f)");
        Check.kind(x, 4, nested(12));
        due("the same long text", x.alike(4, 1, 1), 1);
        due("not the same text", x.alike(4, 2, 1), 0);
    }

    // type: "n (1 .. 8)", "how many it has".
    private static void typeOneToEightBytes() {
        for (int n = 1; n <= 8; n++) {
            SlashKinds x = new SlashKinds();
            due("type " + n, x.type(0x6161616161616161L, n), n);
            due("type " + n + " more", x.type(0x6161616161616161L, n), 2 * n);
            due("count", x.count(2), 2 * n);
        }
        SlashKinds x = withText("(a");
        for (int n : new int[] {0, 9, -1, 10, 64, 80, Integer.MIN_VALUE, Integer.MAX_VALUE}) {
            due("type " + n, x.type('b', n), BAD);
        }
        due("none came", x.count(2), 2);
        due("THE TEXT goes on as it stood", x.type('/', 1), 3);
        due("FAULT", x.read(0), -13);
    }

    // type: "The lowest n (1 .. 8) bytes of v, the highest of them first".
    private static void typeTheLowestBytesTheHighestFirst() {
        long eight = 0x28632F64292A6729L;
        // "((c/d)*g)": the first byte, then eight that fill a long.
        SlashKinds x = withText("(");
        due("type eight", x.type(eight, 8), 9);
        due("read", x.read(0), 3);
        due("ORDER", x.about(0, 1), 1);
        due("LETTER 1", x.letter(0, 1), -4);
        // Those above the lowest n are not looked at.
        long[] above = {0, -1, Long.MIN_VALUE, Long.MAX_VALUE, 0x2961626364656667L};
        String text = "(c/d)";
        for (int n = 1; n <= 5; n++) {
            for (long more : above) {
                x = withText(text.substring(0, 5 - n));
                long v = more << (8 * n);
                for (int p = 5 - n; p < 5; p++) {
                    v |= (long) text.charAt(p) << (8 * (4 - p));
                }
                due("type " + n + " of " + v, x.type(v, n), 5);
                due("read of them", x.read(3), 2);
                due("GOAL of them", x.about(3, 2), 2);
            }
        }
        // A byte is 0 .. 255, though the number is below 0.
        x = new SlashKinds();
        due("type of -1", x.type(-1, 8), 8);
        due("FAULT of 255", x.read(0), -10);
        due("type of the least number", x.type(Long.MIN_VALUE, 1), 9);
    }

    // "Refused, and nothing changes, the first of these: BAD, STATE, FULL".
    private static void typeBadAheadOfFull() {
        SlashKinds x = withText(bytes(80));
        due("type 0 into 80", x.type('a', 0), BAD);
        due("type 9 into 80", x.type('a', 9), BAD);
        due("type 1 into 80", x.type('a', 1), FULL);
        due("type 8 into 80", x.type('a', 8), FULL);
        due("read(12) of a FAULT", x.read(12), BAD);
        due("80 bytes", x.count(2), 80);
    }

    // clear: "THE TEXT is empty: how many bytes it had".
    private static void clearTellsHowMany() {
        SlashKinds x = new SlashKinds();
        due("clear of none", x.clear(), 0);
        for (int n : new int[] {1, 2, 79, 80}) {
            Check.type(x, bytes(n));
            due("clear of " + n, x.clear(), n);
            due("clear again", x.clear(), 0);
            due("bytes then", x.count(2), 0);
            due("FAULT then", x.read(0), -10);
        }
        Check.type(x, "(a/b)");
        due("read", x.read(0), 2);
        due("clear behind a read", x.clear(), 0);
    }

    // read: "THE TEXT becomes KIND i, and is empty then: its SIZE".
    private static void readEmptiesTheText() {
        SlashKinds x = withText("(a/b)");
        due("read", x.read(0), 2);
        due("bytes then", x.count(2), 0);
        due("read again", x.read(0), -10);
        due("the KIND stays", x.about(0, 0), 2);
        Check.type(x, "h");
        due("over the one that was", x.read(0), 1);
        due("the GOAL of the new one", x.about(0, 2), 7);
        due("others stay", x.about(1, 2), 0);
        x.add(0);
        Check.type(x, LONGEST);
        due("the greatest SIZE", x.read(0), 12);
        due("THE ROW has what it was then", x.count(3), 1);
    }

    // read: "-10 less FAULT: nothing changes".
    private static void readLessFault() {
        fault("", 0);
        fault(")", 0);
        fault("a ", 1);
        fault(LONGEST + "a", 45);
        // 52 is the greatest FAULT: so far behind a 13th ATOM or a seventh ( can come.
        fault("(" + LONGEST + "/((((b", 51);
        fault("(" + LONGEST + "/(((((b", 52);
        fault("(" + LONGEST + "/((((((b", 52);
        SlashKinds x = withText("(c/");
        due("FAULT 3", x.read(0), -13);
        due("FAULT 3 again", x.read(11), -13);
        Check.type(x, "d");
        due("FAULT 4", x.read(0), -14);
        Check.type(x, ")");
        due("what stayed is gone on with", x.read(0), 2);
        due("GOAL of it", x.about(0, 2), 2);
    }

    // about: "0 SIZE, 1 ORDER, 2 GOAL .., 3 how many LETTERS are left. BAD".
    private static void aboutZeroToThree() {
        SlashKinds x = withKind("(h/(g/(f\\f)))");
        due("about 0", x.about(0, 0), 4);
        due("about 1", x.about(0, 1), 3);
        due("about 2", x.about(0, 2), 7);
        due("about 3", x.about(0, 3), 2);
        for (int what : new int[] {-1, 4, Integer.MIN_VALUE, Integer.MAX_VALUE}) {
            due("about " + what, x.about(0, what), BAD);
            due("about " + what + " of 11", x.about(11, what), BAD);
        }
    }

    // balance: "BALANCE of an ATOM 0 .. 7. NO: BAD".
    private static void balanceOfAtomsZeroToSeven() {
        SlashKinds x = withKind("(h/a)");
        due("BALANCE of 0", x.balance(0, 0), -1);
        due("BALANCE of 7", x.balance(0, 7), 1);
        for (int atom : new int[] {-1, 8, Integer.MIN_VALUE, Integer.MAX_VALUE}) {
            due("BALANCE of " + atom, x.balance(0, atom), NO);
            due("BALANCE of " + atom + " in 11", x.balance(11, atom), NO);
        }
    }

    // letter: "LETTER k of a KIND: 1 .. 8 for a .. h, below 0 if undone. NO: BAD".
    private static void letterOfThoseThatAreLeft() {
        letters("(a*h)", 1, 8);
        letters("(a\\(b/h))", -1, 2, -8);
        SlashKinds x = withKind("(a/a)");
        due("LETTER 0 of none", x.letter(0, 0), NO);
        due("LETTER -1 of none", x.letter(0, -1), NO);
        Check.kind(x, 0, nested(12));
        due("LETTER 11 of 12", x.letter(0, 11), 1);
        for (int k : new int[] {-1, 12, 13, Integer.MIN_VALUE, Integer.MAX_VALUE}) {
            due("LETTER " + k + " of 12", x.letter(0, k), NO);
        }
        // Those that went are none, though they stand in the KIND; so are those of the KIND that was.
        Check.kind(x, 0, "((a/b)*(b/c))");
        due("LETTER 1 of 2", x.letter(0, 1), -3);
        due("LETTER 2 of 2", x.letter(0, 2), NO);
    }

    // alike: "(same = 0), or the same text (1). BAD".
    private static void alikeSameZeroOrOne() {
        SlashKinds x = withKind("(b/(a\\b))");
        due("ALIKE", x.alike(0, 1, 0), 1);
        due("the same text", x.alike(0, 1, 1), 0);
        for (int same : new int[] {-1, 2, Integer.MIN_VALUE, Integer.MAX_VALUE}) {
            due("same = " + same, x.alike(0, 1, same), BAD);
            due("same = " + same + " of one", x.alike(2, 2, same), BAD);
        }
    }
}
