/** All that an object can be asked of what it holds, as one text. The object is spent then. */
final class Whole {
    private final SlashKinds x;
    private final StringBuilder told = new StringBuilder();

    private Whole(SlashKinds x) {
        this.x = x;
    }

    static String of(SlashKinds x) {
        Whole whole = new Whole(x);
        whole.counts();
        for (int i = 0; i < 12; i++) {
            whole.kind(i);
        }
        whole.row();
        whole.sentence();
        // Only from here on the object is changed.
        whole.words();
        whole.text();
        whole.ends();
        return whole.told.toString();
    }

    private void tell(String name, int... answers) {
        told.append(name);
        for (int answer : answers) {
            told.append(' ').append(answer);
        }
        told.append('\n');
    }

    private void counts() {
        tell("counts", x.count(0), x.count(1), x.count(2), x.count(3));
    }

    private void kind(int i) {
        tell("kind " + i, x.about(i, 0), x.about(i, 1), x.about(i, 2), x.about(i, 3), x.alike(i, (i + 1) % 12, 1));
        for (int atom = 0; atom < 8; atom++) {
            tell("balance " + atom, x.balance(i, atom));
        }
        int left = x.about(i, 3);
        for (int k = 0; k < left; k++) {
            tell("letter " + k, x.letter(i, k));
        }
    }

    private void row() {
        for (int i : new int[] {0, 1, 5, 6}) {
            for (int logic = 0; logic <= 1; logic++) {
                tell("row as " + i + " by " + logic, x.is(i, logic), x.proofs(i, logic), x.meanings(i, logic),
                    x.heads(i, logic));
            }
        }
    }

    private void sentence() {
        for (int i : new int[] {0, 1, 5}) {
            for (int logic = 0; logic <= 1; logic++) {
                tell("sentence as " + i + " by " + logic, x.reads(i, logic, 0), x.reads(i, logic, 1),
                    x.near(i, logic, -1), x.rows(i, logic, 2));
                int length = x.count(1);
                for (int k = 0; k < length; k++) {
                    tell("place " + k, x.first(i, logic, k));
                }
            }
        }
    }

    private void words() {
        for (int w = 0; w < 4; w++) {
            tell("word " + w, x.word(w, 0));
        }
    }

    /** What ends too early is ended, so that its bytes can be told. */
    private void text() {
        tell("text", x.type(')', 1), x.read(0), x.about(0, 0), x.about(0, 2), x.letter(0, 1), x.count(2));
    }

    private void ends() {
        tell("ends", x.clear(), x.wipe(), x.hush());
        counts();
    }
}
