import java.lang.management.ManagementFactory;

/** The dearest runs stay far inside the room that LANGUAGE.md leaves for all calls of one run. */
public final class RoomTest {
    /** 7.3 million fields and elements and 600,000 objects would be some 40 million bytes. */
    private static final long BYTES = 4_000_000;

    private static final com.sun.management.ThreadMXBean THREADS =
        (com.sun.management.ThreadMXBean) ManagementFactory.getThreadMXBean();

    public static void main(String[] args) {
        for (int what = 0; what < 5; what++) {
            long before = THREADS.getCurrentThreadAllocatedBytes();
            run(what);
            long used = THREADS.getCurrentThreadAllocatedBytes() - before;
            Check.holds("run " + what + " makes " + used + " bytes", used < BYTES);
        }
        Check.end("RoomTest");
    }

    private static void run(int what) {
        SlashKinds x = new SlashKinds();
        String[] kinds = {"a", "(a/a)", "(a\\a)", "((a/a)/a)", "(a\\(a\\a))", "((a\\a)/a)", "(a/(a/a))",
            "((a/a)\\a)", "((a/a)/(a/a))", "((a\\a)\\(a\\a))", "(a/(a\\a))", "(((((a/a)/a)/a)/a)/a)"};
        for (int i = 0; i < 12; i++) {
            Check.kind(x, i, kinds[i]);
        }
        for (int w = 0; w < 4; w++) {
            x.word(w, 7 << (2 * w));
        }
        for (int p = 0; p < 6; p++) {
            x.say(p % 4);
            x.add(what == 1 ? 1 : p % 4);
        }
        for (int call = 0; call < 400; call++) {
            switch (what) {
                case 0: x.rows(8, call % 2, 4); break;
                case 1: x.proofs(0, call % 2); break;
                case 2: x.reads(call % 12, call % 2, 1); break;
                case 3: x.type('b', 1); x.read(call % 12); break;
                default: x.meanings(call % 3, call % 2);
            }
        }
    }
}
