/** Counts and prints the answers that are not due. */
final class Check {
    private static int wrong = 0;
    private static int asked = 0;

    private Check() {
    }

    static void due(String call, long got, long want) {
        asked++;
        if (got != want) {
            wrong++;
            if (wrong <= 100) {
                System.out.println(call + " answered " + got + ", due is " + want);
            }
        }
    }

    static void holds(String what, boolean yes) {
        asked++;
        if (!yes) {
            wrong++;
            System.out.println("does not hold: " + what);
        }
    }

    static boolean anyWrong() {
        return wrong > 0;
    }

    static void end(String name) {
        System.out.println(name + ": " + asked + " answers, " + wrong + " not as due");
        if (wrong > 0 || asked == 0) {
            System.exit(1);
        }
    }

    /** Types a text byte by byte in pieces of eight: what the last piece answered. */
    static int type(SlashKinds x, String text) {
        int answer = 0;
        for (int from = 0; from < text.length(); from += 8) {
            int to = Math.min(text.length(), from + 8);
            long v = 0;
            for (int p = from; p < to; p++) {
                v = v << 8 | text.charAt(p);
            }
            answer = x.type(v, to - from);
        }
        return answer;
    }

    /** KIND i becomes what a text tells; the text must be right. */
    static void kind(SlashKinds x, int i, String text) {
        x.clear();
        type(x, text);
        int size = 0;
        for (int p = 0; p < text.length(); p++) {
            size += text.charAt(p) >= 'a' && text.charAt(p) <= 'h' ? 1 : 0;
        }
        due("read of " + text, x.read(i), size);
    }

    /** THE ROW becomes these KINDS, read by way of KIND 11. */
    static void row(SlashKinds x, String... texts) {
        x.wipe();
        for (String text : texts) {
            kind(x, 11, text);
            x.add(11);
        }
    }
}
