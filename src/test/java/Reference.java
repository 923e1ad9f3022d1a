import java.util.ArrayList;
import java.util.List;
import java.util.Random;
import java.util.TreeMap;

/**
 * A second telling of the document to compare with: programs as trees that are made, not read, and
 * answers straight from the words' meaning, by other ways than the program goes.
 */
final class Reference {
    static final int EXIT = 0;
    static final int STUCK = -9;
    static final int GONE = -1;

    /** A statement, or (kind "seq") statements. */
    static final class Tree {
        String kind;
        int number;
        int place;
        int test;
        String testText = "";
        final List<Tree> parts = new ArrayList<>();

        boolean has(int k) {
            if (place == k) {
                return true;
            }
            for (Tree part : parts) {
                if (part.has(k)) {
                    return true;
                }
            }
            return false;
        }
    }

    private final Random random;
    private int places;
    int[] acts = new int[17];
    Tree root;
    String text;

    Reference(long seed, int depth) {
        random = new Random(seed);
        do {
            places = 0;
            acts = new int[17];
            root = makeStatements(depth);
            text = write(root);
        } while (text.length() > 300);
    }

    int places() {
        return places;
    }

    // ---- making

    private Tree makeStatements(int depth) {
        Tree seq = new Tree();
        seq.kind = "seq";
        int n = 1 + random.nextInt(random.nextInt(4) + 1);
        for (int k = 0; k < n; k++) {
            seq.parts.add(makeStatement(depth));
        }
        return seq;
    }

    private Tree makeStatement(int depth) {
        Tree tree = new Tree();
        int pick = random.nextInt(depth > 0 ? 20 : 12);
        if (pick < 8 && places < 16) {
            places++;
            tree.kind = "act";
            tree.number = 1 + random.nextInt(random.nextInt(3) + 1);
            tree.place = places;
            acts[places] = tree.number;
        } else if (pick < 9) {
            tree.kind = "skip";
        } else if (pick < 10 && random.nextInt(3) == 0) {
            tree.kind = "stop";
        } else if (pick < 12) {
            tree.kind = "want";
            makeTest(tree, depth);
        } else {
            tree.kind = pick < 16 ? "if" : "while";
            makeTest(tree, depth - 1);
            tree.parts.add(makeStatements(depth - 1));
            if (pick < 14) {
                tree.parts.add(makeStatements(depth - 1));
            }
        }
        return tree;
    }

    private void makeTest(Tree tree, int depth) {
        StringBuilder told = new StringBuilder();
        tree.test = random.nextInt(4) == 0 ? any(told, depth) : one(told, 0);
        tree.testText = told.toString();
    }

    private int any(StringBuilder told, int depth) {
        int atoms = all(told, depth);
        while (random.nextInt(3) == 0) {
            told.append(blank()).append('|').append(blank());
            atoms |= all(told, depth);
        }
        return atoms;
    }

    private int all(StringBuilder told, int depth) {
        int atoms = one(told, depth);
        while (random.nextInt(3) == 0) {
            told.append(blank()).append('&').append(blank());
            atoms &= one(told, depth);
        }
        return atoms;
    }

    private int one(StringBuilder told, int depth) {
        int pick = random.nextInt(depth > 0 ? 14 : 10);
        if (pick < 4) {
            told.append('b');
            return 0b1010;
        }
        if (pick < 8) {
            told.append('c');
            return 0b1100;
        }
        if (pick < 10) {
            told.append(pick - 8);
            return pick == 8 ? 0 : 15;
        }
        if (pick < 12) {
            told.append('!').append(blank());
            return 15 ^ one(told, depth - 1);
        }
        told.append('(').append(blank());
        int atoms = any(told, depth - 1);
        told.append(blank()).append(')');
        return atoms;
    }

    private String blank() {
        return " ".repeat(random.nextInt(6) == 0 ? 1 : 0);
    }

    private String write(Tree tree) {
        switch (tree.kind) {
            case "seq":
                StringBuilder told = new StringBuilder();
                for (Tree part : tree.parts) {
                    told.append(told.length() == 0 ? "" : blank() + ";" + blank()).append(write(part));
                }
                return told.toString();
            case "act":
                return String.valueOf((char) ('p' + tree.number - 1));
            case "want":
                return "want " + tree.testText;
            case "if":
                return "if " + tree.testText + " then " + write(tree.parts.get(0))
                    + (tree.parts.size() > 1 ? " else " + write(tree.parts.get(1)) : "") + " fi";
            case "while":
                return "while " + tree.testText + " do " + write(tree.parts.get(0)) + " od";
            default:
                return tree.kind;
        }
    }

    // ---- meaning

    /** Going through a tree from its beginning: EXIT, STUCK or an act's place. */
    private int enter(Tree tree, int atom) {
        boolean so = (tree.test >> atom & 1) == 1;
        switch (tree.kind) {
            case "seq":
                return enterFrom(tree, 0, atom);
            case "act":
                return tree.place;
            case "skip":
                return EXIT;
            case "stop":
                return STUCK;
            case "want":
                return so ? EXIT : STUCK;
            case "if":
                if (!so && tree.parts.size() < 2) {
                    return EXIT;
                }
                return enter(tree.parts.get(so ? 0 : 1), atom);
            default:
                if (!so) {
                    return EXIT;
                }
                int inside = enter(tree.parts.get(0), atom);
                return inside == EXIT ? STUCK : inside;
        }
    }

    private int enterFrom(Tree seq, int from, int atom) {
        for (int k = from; k < seq.parts.size(); k++) {
            int found = enter(seq.parts.get(k), atom);
            if (found != EXIT) {
                return found;
            }
        }
        return EXIT;
    }

    /** Going on through a tree from behind an act in it. */
    private int leave(Tree tree, int place, int atom) {
        if (tree.place == place) {
            return EXIT;
        }
        for (int k = 0; k < tree.parts.size(); k++) {
            if (tree.parts.get(k).has(place)) {
                int found = leave(tree.parts.get(k), place, atom);
                if (found != EXIT || tree.kind.equals("if")) {
                    return found;
                }
                return tree.kind.equals("seq") ? enterFrom(tree, k + 1, atom) : enter(tree, atom);
            }
        }
        throw new IllegalStateException("no such place");
    }

    int next(int place, int atom) {
        if (place == GONE) {
            return STUCK;
        }
        return place == 0 ? enter(root, atom) : leave(root, place, atom);
    }

    /** How many acts of a row come, and where it is then. */
    int[] walk(int n, long row) {
        String told = Long.toString(row, 12);
        told = "0".repeat(n + 1 - told.length()) + told;
        int place = 0;
        for (int k = 0; k <= n; k++) {
            int digit = Character.digit(told.charAt(k), 12);
            int atom = k == 0 ? digit : digit % 4;
            int goes = next(place, atom);
            int wanted = k == n ? -1 : Character.digit(told.charAt(k + 1), 12) / 4 + 1;
            if (goes <= 0 || acts[goes] != wanted) {
                return new int[] {k, goes};
            }
            place = goes;
        }
        throw new IllegalStateException("a row has an end");
    }

    /** How many rows of n acts are let from a place on. */
    long many(int place, int n) {
        long sum = 0;
        for (int atom = 0; atom < 4; atom++) {
            int goes = next(place, atom);
            if (n == 0) {
                sum += goes == EXIT ? 1 : 0;
            } else if (goes > 0) {
                sum += many(goes, n - 1);
            }
        }
        return sum;
    }

    /** The last atoms of rows from a place on by an atom; places already gone to are left out. */
    int lasts(int place, int atom, boolean[] been) {
        int goes = next(place, atom);
        if (goes == EXIT) {
            return 1 << atom;
        }
        if (goes == STUCK || been[goes]) {
            return 0;
        }
        been[goes] = true;
        int found = 0;
        for (int then = 0; then < 4; then++) {
            found |= lasts(goes, then, been);
        }
        return found;
    }

    private boolean letsAny(int place) {
        int found = 0;
        for (int atom = 0; atom < 4; atom++) {
            found |= lasts(place, atom, new boolean[17]);
        }
        return found != 0;
    }

    private boolean[] come() {
        boolean[] come = new boolean[17];
        come[0] = true;
        for (int atom = 0; atom < 4; atom++) {
            comeFrom(0, atom, come);
        }
        return come;
    }

    private void comeFrom(int place, int atom, boolean[] come) {
        int goes = next(place, atom);
        if (goes > 0 && !come[goes]) {
            come[goes] = true;
            for (int then = 0; then < 4; then++) {
                comeFrom(goes, then, come);
            }
        }
    }

    int dead() {
        boolean[] come = come();
        int bits = 0;
        for (int place = 1; place <= places; place++) {
            bits |= come[place] && letsAny(place) ? 0 : 1 << place;
        }
        return bits;
    }

    int fewest() {
        int dead = dead();
        List<Integer> kept = new ArrayList<>();
        for (int place = 0; place <= places; place++) {
            if ((dead >> place & 1) == 0 && letsAny(place)) {
                boolean known = false;
                for (int k : kept) {
                    known |= firstRow(this, k, this, place, true) == null;
                }
                if (!known) {
                    kept.add(place);
                }
            }
        }
        return kept.size();
    }

    /**
     * All pairs that rows of 0, 1, 2, .. acts lead to, each with its least row: the first row, as
     * {acts, number}, that one lets and the other does not. No row of more acts than places of both
     * (and one) is needed to tell two programs apart.
     */
    static long[] firstRow(Reference one, int place, Reference other, int otherPlace, boolean bothWays) {
        TreeMap<Integer, Long> layer = new TreeMap<>();
        layer.put((place + 1) * 18 + otherPlace + 1, 0L);
        for (int n = 0; n <= one.places + other.places + 3; n++) {
            long best = Long.MAX_VALUE;
            TreeMap<Integer, Long> deeper = new TreeMap<>();
            for (var entry : layer.entrySet()) {
                int s = entry.getKey() / 18 - 1;
                int t = entry.getKey() % 18 - 1;
                for (int atom = 0; atom < 4; atom++) {
                    int goes = one.next(s, atom);
                    int otherGoes = other.next(t, atom);
                    long row = entry.getValue() + atom;
                    if ((goes == EXIT) != (otherGoes == EXIT) && (bothWays || goes == EXIT)) {
                        best = Math.min(best, row);
                    }
                    for (int act = 1; act <= 3; act++) {
                        int s2 = goes > 0 && one.acts[goes] == act ? goes : GONE;
                        int t2 = otherGoes > 0 && other.acts[otherGoes] == act ? otherGoes : GONE;
                        if (s2 != GONE || t2 != GONE) {
                            deeper.merge((s2 + 1) * 18 + t2 + 1, row * 12 + 4 * (act - 1), Math::min);
                        }
                    }
                }
            }
            if (best != Long.MAX_VALUE) {
                return new long[] {n, best};
            }
            layer = deeper;
        }
        return null;
    }

    /** The size of a tree; what size() adds to the trace goes to trace[0]. */
    static int size(Tree tree, long[] trace) {
        int sum = 0;
        for (Tree part : tree.parts) {
            sum += size(part, trace);
        }
        int atoms = Integer.bitCount(tree.test);
        switch (tree.kind) {
            case "seq":
                return sum;
            case "act":
                trace[0] += 11;
                return sum + 1 + tree.number;
            case "if":
                trace[0] += 101;
                return sum + 1 + atoms;
            case "while":
                trace[0] += 1101;
                return sum + 2 + 2 * atoms;
            case "want":
                trace[0] += 10001;
                return sum + 5 - atoms;
            default:
                trace[0] += 1;
                return sum + 1;
        }
    }
}
