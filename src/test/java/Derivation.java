import java.util.ArrayList;
import java.util.List;

/** A row that is of a KIND, made by going from ATOMS down the rules. */
final class Derivation {
    final List<String> row;
    final String goal;

    private Derivation(List<String> row, String goal) {
        this.row = row;
        this.goal = goal;
    }

    /** Numbers told from a seed. */
    static final class Dice {
        private long seed;

        Dice(long seed) {
            this.seed = seed * 0x9E3779B97F4A7C15L;
        }

        int below(int bound) {
            seed = seed * 6364136223846793005L + 1442695040888963407L;
            return (int) ((seed >>> 33) % bound);
        }
    }

    /** Of twice as many ATOMS as links; rows that are empty come only where they may. */
    static Derivation of(int links, int letters, boolean stars, boolean mayBeEmpty, Dice dice) {
        Derivation made = links == 1 ? ofAtom(dice.below(letters))
            : joined(links, letters, stars, mayBeEmpty, dice);
        int more = dice.below(3);
        for (int s = 0; s < more; s++) {
            made = made.goneOn(stars, mayBeEmpty, dice);
        }
        return made;
    }

    private static Derivation ofAtom(int number) {
        String atom = String.valueOf((char) ('a' + number));
        return new Derivation(new ArrayList<>(List.of(atom)), atom);
    }

    private static Derivation joined(int links, int letters, boolean stars, boolean mayBeEmpty, Dice dice) {
        int some = 1 + dice.below(links - 1);
        Derivation first = of(some, letters, stars, mayBeEmpty, dice);
        Derivation second = of(links - some, letters, stars, mayBeEmpty, dice);
        if (stars && dice.below(4) == 0 || second.row.isEmpty()) {
            if (stars) {
                List<String> both = new ArrayList<>(first.row);
                both.addAll(second.row);
                return new Derivation(both, "(" + first.goal + "*" + second.goal + ")");
            }
            return joined(links, letters, stars, mayBeEmpty, dice);
        }
        int place = dice.below(second.row.size());
        List<String> row = new ArrayList<>(second.row.subList(0, place));
        String x = second.row.get(place);
        if (dice.below(2) == 0) {
            row.add("(" + x + "/" + first.goal + ")");
            row.addAll(first.row);
        } else {
            row.addAll(first.row);
            row.add("(" + first.goal + "\\" + x + ")");
        }
        row.addAll(second.row.subList(place + 1, second.row.size()));
        return new Derivation(row, second.goal);
    }

    private Derivation goneOn(boolean stars, boolean mayBeEmpty, Dice dice) {
        int n = row.size();
        if (stars && n >= 2 && dice.below(3) == 0) {
            int place = dice.below(n - 1);
            List<String> shorter = new ArrayList<>(row);
            String y = shorter.remove(place + 1);
            shorter.set(place, "(" + shorter.get(place) + "*" + y + ")");
            return new Derivation(shorter, goal);
        }
        if (n < (mayBeEmpty ? 1 : 2)) {
            return this;
        }
        if (dice.below(2) == 0) {
            return new Derivation(new ArrayList<>(row.subList(0, n - 1)), "(" + goal + "/" + row.get(n - 1) + ")");
        }
        return new Derivation(new ArrayList<>(row.subList(1, n)), "(" + row.get(0) + "\\" + goal + ")");
    }
}
