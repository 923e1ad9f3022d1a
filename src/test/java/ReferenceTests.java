import java.util.Random;

/** Many made programs, each answer compared with the one of the Reference. */
public final class ReferenceTests {
    private static final Checks CHECKS = new Checks();
    private static int alikePairs;
    private static int farPairs;

    private ReferenceTests() {
    }

    public static void main(String[] args) {
        for (int seed = 0; seed < 1500; seed++) {
            TestedLoops x = new TestedLoops();
            Reference[] made = new Reference[4];
            for (int i = 0; i < 4; i++) {
                // in every fourth round twins are told, so that some are alike
                made[i] = new Reference(i == 3 && seed % 4 == 0 ? 10L * seed : 10L * seed + i, seed % 5);
                CHECKS.due("program " + made[i].text, Checks.tell(x, i, made[i].text), made[i].places());
            }
            for (int i = 0; i < 4; i++) {
                compareOne(x, i, made[i]);
                for (int j = 0; j < 4; j++) {
                    compareTwo(x, i, made[i], j, made[j]);
                }
            }
            compareSizes(x, made);
        }
        CHECKS.holds("some pairs are alike", alikePairs > 1000);
        CHECKS.holds("some pairs are far apart", farPairs > 1000);
        CHECKS.finish("ReferenceTests");
    }

    private static void compareOne(TestedLoops x, int i, Reference made) {
        String text = made.text;
        for (int place = 0; place <= made.places(); place++) {
            if (place > 0) {
                CHECKS.due("act in " + text, x.act(i, place), made.acts[place]);
            }
            for (int atom = 0; atom < 4; atom++) {
                int goes = made.next(place, atom);
                CHECKS.due("next " + place + " " + atom + " in " + text, x.next(i, place, atom, 0), goes);
                CHECKS.due("next act in " + text, x.next(i, place, atom, 1), goes > 0 ? made.acts[goes] : 0);
            }
        }
        CHECKS.due("dead in " + text, x.dead(i), made.dead());
        CHECKS.due("fewest in " + text, x.fewest(i), made.fewest());
        for (int n = 0; n < 6; n++) {
            CHECKS.due("many " + n + " in " + text, x.many(i, n), made.many(0, n));
        }
        compareSets(x, i, made);
        compareRows(x, i, made);
    }

    private static void compareSets(TestedLoops x, int i, Reference made) {
        for (int set = 0; set < 16; set++) {
            int ahead = 0;
            int behind = 0;
            for (int atom = 0; atom < 4; atom++) {
                int lasts = made.lasts(0, atom, new boolean[17]);
                ahead |= (lasts | set) == set ? 1 << atom : 0;
                behind |= (set >> atom & 1) == 1 ? lasts : 0;
            }
            CHECKS.due("ahead " + set + " in " + made.text, x.ahead(i, set), ahead);
            CHECKS.due("behind " + set + " in " + made.text, x.behind(i, set), behind);
        }
    }

    private static void compareRows(TestedLoops x, int i, Reference made) {
        long found = 0;
        for (long row = 0; row < 4 * 144; row++) {
            compareRow(x, i, made, 2, row);
            found += x.lets(i, 2, row);
        }
        CHECKS.due("rows that are let are as many", x.many(i, 2), found);
        Random random = new Random(made.text.hashCode());
        for (int k = 0; k < 20; k++) {
            int n = random.nextInt(13);
            compareRow(x, i, made, n, likelyRow(made, n, random));
        }
    }

    /** A row along which the program goes, till it ends or is stuck. */
    private static long likelyRow(Reference made, int n, Random random) {
        int place = 0;
        int atom = random.nextInt(4);
        long row = atom;
        for (int k = 0; k < n; k++) {
            int goes = place == Reference.GONE ? Reference.GONE : made.next(place, atom);
            place = goes > 0 ? goes : Reference.GONE;
            int act = goes > 0 ? made.acts[goes] : 1 + random.nextInt(3);
            atom = random.nextInt(4);
            row = row * 12 + 4 * (act - 1) + atom;
        }
        return row;
    }

    private static void compareRow(TestedLoops x, int i, Reference made, int n, long row) {
        int[] walked = made.walk(n, row);
        String what = n + ", " + row + " in " + made.text;
        CHECKS.due("walk acts " + what, x.walk(i, n, row, 0), walked[0]);
        CHECKS.due("walk where " + what, x.walk(i, n, row, 1), walked[1]);
        CHECKS.due("lets " + what, x.lets(i, n, row), walked[0] == n && walked[1] == 0 ? 1 : 0);
    }

    private static void compareTwo(TestedLoops x, int i, Reference one, int j, Reference other) {
        String what = one.text + " / " + other.text;
        long[] first = Reference.firstRow(one, 0, other, 0, true);
        CHECKS.due("alike " + what, x.alike(i, j), first == null ? 1 : 0);
        CHECKS.due("far " + what, x.far(i, j), first == null ? -9 : first[0]);
        long told = first == null ? -9 : first[0] > 16 ? -10 : first[1];
        CHECKS.due("apart " + what, x.apart(i, j), told);
        long[] outside = Reference.firstRow(one, 0, other, 0, false);
        CHECKS.due("within " + what, x.within(i, j), outside == null ? 1 : 0);
        if (first == null && i != j) {
            alikePairs++;
        } else if (first != null && first[0] > 1) {
            farPairs++;
        }
    }

    private static void compareSizes(TestedLoops x, Reference[] made) {
        long[] trace = new long[1];
        for (int i = 0; i < 4; i++) {
            CHECKS.due("size of " + made[i].text, x.size(i), Reference.size(made[i].root, trace));
            CHECKS.due("trace of " + made[i].text, x.trace(), trace[0]);
        }
    }
}
