/**
 * No call throws or fails to end, whatever numbers it is given, in any state: behind the 512th call too, of
 * which the document leaves the answers free, but not LANGUAGE.md, rule 7.
 */
public final class NeverThrows {
    private static final int[] ODD = {-1, -2, -9, -1000000, 12, 13, 31, 32, 64, 80, 4095, 4096, 1 << 30,
        Integer.MIN_VALUE, Integer.MIN_VALUE + 1, Integer.MAX_VALUE, Integer.MAX_VALUE - 1};
    private static final String[] TEXTS = {"a", "b", "(a/b)", "(b\\a)", "(a/a)", "(a\\a)", "((a\\a)/a)",
        "(a/(b\\a))", "(a*b)", "((a/a)/(a/a))", "(a/(b/b))", "((((((a/b)\\c)*d)/e)\\f)*g)", "(((((",
        "(((a/b)*(c\\d))/((e*f)\\((g/h)*((a*b)/(c*d)))))", "((((((a/a)/a)/a)/a)/a)/a)"};

    private final Derivation.Dice dice;
    private final SlashKinds x = new SlashKinds();

    private NeverThrows(long from) {
        dice = new Derivation.Dice(from);
    }

    public static void main(String[] args) {
        for (int s = 1; s <= 12; s++) {
            NeverThrows one = new NeverThrows(s);
            for (int call = 0; call < 6000; call++) {
                Check.holds("it answers", one.call(one.dice.below(24)) > Integer.MIN_VALUE);
            }
        }
        Check.end("NeverThrows");
    }

    private int some(int to) {
        return dice.below(6) == 0 ? ODD[dice.below(ODD.length)] : dice.below(to + 1);
    }

    private int call(int which) {
        switch (which) {
            case 0: return x.type((long) dice.below(1 << 30) << 34 ^ dice.below(1 << 30), some(8));
            case 1: return x.clear();
            case 2: return x.about(some(11), some(3));
            case 3: return x.balance(some(11), some(7));
            case 4: return x.letter(some(11), some(11));
            case 5: return x.alike(some(11), some(11), some(1));
            case 6: case 7: return x.add(some(11));
            case 8: return dice.below(4) == 0 ? x.wipe() : x.count(some(3));
            case 9: return x.is(some(11), some(1));
            case 10: return x.proofs(some(11), some(1));
            case 11: return x.meanings(some(11), some(1));
            case 12: return x.heads(some(11), some(1));
            case 13: return x.word(some(3), 1 << dice.below(12) | 1 << dice.below(12) | 1 << some(11));
            case 14: case 15: return x.say(some(3));
            case 16: return dice.below(4) == 0 ? x.hush() : x.count(some(3));
            case 17: return x.reads(some(11), some(1), some(1));
            case 18: return x.first(some(11), some(1), some(5));
            case 19: return x.rows(some(11), some(1), some(4));
            case 20: return x.near(some(11), some(1), some(5) - 1);
            case 21: return x.count(some(3));
            default: return readSome();
        }
    }

    private int readSome() {
        x.clear();
        Check.type(x, TEXTS[dice.below(TEXTS.length)]);
        return x.read(some(11));
    }
}
