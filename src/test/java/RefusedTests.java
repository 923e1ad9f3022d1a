import java.util.ArrayList;
import java.util.List;
import java.util.function.Supplier;
import java.util.function.ToLongFunction;

/**
 * "Refused, and nothing changes, the first of these: BAD, FULL." Each refused call is made on one of
 * two objects that were made alike; its answer is looked at, and then every later answer of both.
 */
public final class RefusedTests {
    private static final int BAD = TestedLoops.BAD;
    private static final int FULL = TestedLoops.FULL;
    private static final int MIN = Integer.MIN_VALUE;
    private static final int MAX = Integer.MAX_VALUE;
    private static final int MOST_CALLS = 512;
    private static final int[] NO_PROGRAMS = {-1, 4, 5, 256, MIN, MAX};
    private static final int[] NO_WHATS = {-1, 2, 3, MIN, MAX};
    private static final int[] NO_ATOMS = {-1, 4, 16, MIN, MAX};
    private static final int[] NO_SETS = {-1, 16, 17, 31, MIN, MAX};
    private static final String SIXTEEN = "p;q;r;p;q;r;p;q;r;p;q;r;p;q;r;p";

    private static final Checks CHECKS = new Checks();

    private final String name;
    private final Supplier<TestedLoops> maker;
    private final int[] places;
    private final List<Refused> calls = new ArrayList<>();

    /** A call and the answer that is due. */
    private record Refused(String told, ToLongFunction<TestedLoops> call, long due) {
    }

    private RefusedTests(String name, Supplier<TestedLoops> maker, int... places) {
        this.name = name;
        this.maker = maker;
        this.places = places;
    }

    public static void main(String[] args) {
        RefusedTests fresh = new RefusedTests("a new object", TestedLoops::new, 0, 0, 0, 0);
        fresh.addBadCalls();
        fresh.addFault(0);
        fresh.compareAll();
        RefusedTests used = new RefusedTests("a used object", () -> used("while b do p"), 2, 3, 1, 16);
        used.addBadCalls();
        used.addFault(12);
        used.compareAll();
        RefusedTests standing = new RefusedTests("a text that stands", () -> used("r; want c; q"), 2, 3, 1, 16);
        standing.addBadCalls();
        standing.compareAll();
        fullTexts();
        faultyTexts();
        fullByEach();
        CHECKS.finish("RefusedTests");
    }

    private static void fullTexts() {
        String good = "q; if b then r fi" + " ".repeat(283);
        RefusedTests full = new RefusedTests("a full text", () -> used(good), 2, 3, 1, 16);
        full.addBadCalls();
        for (int n = 1; n <= 8; n++) {
            full.addFull(n);
        }
        full.compareAll();
        RefusedTests fault = new RefusedTests("a full text with a fault", () -> used("p;".repeat(150)), 2, 3, 1, 16);
        fault.addBadCalls();
        fault.addFull(1);
        fault.addFault(32);
        fault.compareAll();
        RefusedTests early = new RefusedTests("a full text, too early", () -> used("skip;".repeat(60)), 2, 3, 1, 16);
        early.addFault(300);
        early.compareAll();
    }

    /** Every sort of fault leaves the text and all programs. */
    private static void faultyTexts() {
        String[] texts = {"   ", "p q", "p;zz", "p;?", "want 2", SIXTEEN + ";r", "want !!!!!!!!!b", "if b then p",
            "if b then p od", "while b do p; fi", "want (b", "p;q;r;while 1 do skip od;"};
        int[] faults = {3, 2, 2, 2, 5, 32, 13, 11, 12, 14, 7, 25};
        for (int k = 0; k < texts.length; k++) {
            String text = texts[k];
            RefusedTests faulty = new RefusedTests("'" + text + "'", () -> used(text), 2, 3, 1, 16);
            faulty.addFault(faults[k]);
            for (int i : NO_PROGRAMS) {
                faulty.add("BAD is ahead of a fault", x -> x.program(i), BAD);
            }
            faulty.compareAll();
        }
    }

    /** With n - 1 bytes left n are refused, and not a part of them is taken. */
    private static void fullByEach() {
        for (int n = 1; n <= 8; n++) {
            String text = "q" + " ".repeat(300 - n);
            RefusedTests nearly = new RefusedTests((n - 1) + " bytes left", () -> used(text), 2, 3, 1, 16);
            for (int more = n; more <= 8; more++) {
                nearly.addFull(more);
            }
            nearly.compareAll();
            TestedLoops x = used(text);
            CHECKS.due("FULL with " + (n - 1) + " left", x.type(0x3b703b703b703b70L, n), FULL);
            if (n > 1) {
                CHECKS.due("just as many as are left", x.type(0x3b703b703b703b70L, n - 1), 300);
            }
            CHECKS.due("then none", x.type(112, 1), FULL);
            CHECKS.due("cleared", x.clear(), 300);
            CHECKS.due("room again", x.type(112, 1), 1);
        }
    }

    /** Programs of all sorts, a trace that is not 0, and this text. */
    private static TestedLoops used(String text) {
        TestedLoops x = Checks.with("while b do p od; q", "if c then r; want b else p; stop fi; q",
            "while 1 do p od", SIXTEEN);
        x.size(0);
        x.size(1);
        Checks.typeText(x, text);
        return x;
    }

    private void add(String told, ToLongFunction<TestedLoops> call, long due) {
        calls.add(new Refused(told, call, due));
    }

    private void addFault(int fault) {
        for (int i = 0; i < 4; i++) {
            int program = i;
            add("program(" + i + ") of a fault", x -> x.program(program), -10 - fault);
        }
    }

    private void addFull(int n) {
        add("type of " + n + ", FULL", x -> x.type(0x7071727370717273L, n), FULL);
        add("type of " + n + " blanks, FULL", x -> x.type(0x2020202020202020L, n), FULL);
    }

    private void addBadCalls() {
        for (int n : new int[] {0, -1, 9, 10, 16, -8, 257, MIN, MAX}) {
            add("type n " + n, x -> x.type(112, n), BAD);
            add("type n " + n + ", v below 0", x -> x.type(-1L, n), BAD);
        }
        for (int what : NO_WHATS) {
            add("count " + what, x -> x.count(what), BAD);
        }
        for (int i : NO_PROGRAMS) {
            addBadProgram(i);
        }
        for (int i = 0; i < 4; i++) {
            addBadPlaces(i);
            addBadRows(i);
            addBadSets(i);
        }
    }

    private void addBadProgram(int i) {
        add("program " + i, x -> x.program(i), BAD);
        add("next " + i, x -> x.next(i, 0, 0, 0), BAD);
        add("act " + i, x -> x.act(i, 1), BAD);
        add("dead " + i, x -> x.dead(i), BAD);
        add("fewest " + i, x -> x.fewest(i), BAD);
        add("ahead " + i, x -> x.ahead(i, 15), BAD);
        add("behind " + i, x -> x.behind(i, 15), BAD);
        add("many " + i, x -> x.many(i, 0), BAD);
        add("lets " + i, x -> x.lets(i, 0, 0), BAD);
        add("walk " + i, x -> x.walk(i, 0, 0, 0), BAD);
        add("size " + i, x -> x.size(i), BAD);
        for (int j : new int[] {0, 3, i, -1, 4}) {
            addBadPair(i, j);
            addBadPair(j, i);
        }
    }

    private void addBadPair(int i, int j) {
        add("alike " + i + " " + j, x -> x.alike(i, j), BAD);
        add("apart " + i + " " + j, x -> x.apart(i, j), BAD);
        add("far " + i + " " + j, x -> x.far(i, j), BAD);
        add("within " + i + " " + j, x -> x.within(i, j), BAD);
    }

    private void addBadPlaces(int i) {
        for (int place : new int[] {-1, places[i] + 1, 17, 18, MIN, MAX}) {
            add("next place " + place, x -> x.next(i, place, 0, 0), BAD);
            add("act place " + place, x -> x.act(i, place), BAD);
        }
        add("act place 0", x -> x.act(i, 0), BAD);
        for (int atom : NO_ATOMS) {
            add("next atom " + atom, x -> x.next(i, 0, atom, 0), BAD);
            add("next atom " + atom + ", act", x -> x.next(i, places[i], atom, 1), BAD);
        }
        for (int what : NO_WHATS) {
            add("next what " + what, x -> x.next(i, 0, 0, what), BAD);
            add("walk what " + what, x -> x.walk(i, 0, 0, what), BAD);
            add("walk what " + what + ", 12 acts", x -> x.walk(i, 12, 0, what), BAD);
        }
    }

    private void addBadRows(int i) {
        for (int n : new int[] {-1, 15, 16, MIN, MAX}) {
            add("many n " + n, x -> x.many(i, n), BAD);
        }
        for (int n : new int[] {-1, 13, 14, 15, MIN, MAX}) {
            add("lets n " + n, x -> x.lets(i, n, 0), BAD);
            add("walk n " + n, x -> x.walk(i, n, 0, 0), BAD);
        }
        long past = 4;
        for (int n = 0; n <= 12; n++) {
            for (long row : new long[] {past, past + 1, -1, -past, 1L << 32 << n, Long.MIN_VALUE, Long.MAX_VALUE}) {
                if (row < 0 || row >= past) {
                    addBadRow(i, n, row);
                }
            }
            past *= 12;
        }
    }

    private void addBadRow(int i, int n, long row) {
        add("lets " + n + " " + row, x -> x.lets(i, n, row), BAD);
        add("walk " + n + " " + row, x -> x.walk(i, n, row, 0), BAD);
        add("where " + n + " " + row, x -> x.walk(i, n, row, 1), BAD);
    }

    private void addBadSets(int i) {
        for (int set : NO_SETS) {
            add("ahead " + set, x -> x.ahead(i, set), BAD);
            add("behind " + set, x -> x.behind(i, set), BAD);
        }
    }

    private void compareAll() {
        long[] due = later(maker.get());
        for (Refused refused : calls) {
            TestedLoops x = maker.get();
            String told = refused.told + " on " + name;
            CHECKS.due(told, refused.call.applyAsLong(x), refused.due);
            compareLater(told, due, x);
        }
        // as many as an object's calls allow, one behind the other
        TestedLoops x = maker.get();
        int room = Math.min(calls.size(), MOST_CALLS - callsToMake() - due.length);
        for (int k = 0; k < room; k++) {
            Refused refused = calls.get(k * calls.size() / room);
            CHECKS.due(refused.told + " in a row on " + name, refused.call.applyAsLong(x), refused.due);
        }
        compareLater("many refused calls on " + name, due, x);
    }

    /** More than used() makes: four texts with clear and program, two sizes, a text of 300 bytes. */
    private static int callsToMake() {
        return 4 * 7 + 2 + 38;
    }

    private static void compareLater(String told, long[] due, TestedLoops x) {
        long[] got = later(x);
        CHECKS.due("later answers behind " + told, got.length, due.length);
        for (int k = 0; k < Math.min(got.length, due.length); k++) {
            CHECKS.due("later answer " + k + " behind " + told, got[k], due[k]);
        }
    }

    /** What the object answers from now on: to questions, then to calls that change it. */
    private static long[] later(TestedLoops x) {
        List<Long> answers = new ArrayList<>();
        answers.add(x.trace());
        answers.add((long) x.count(0));
        answers.add((long) x.count(1));
        for (int i = 0; i < 4; i++) {
            askOne(x, i, answers);
            askTwo(x, i, (i + 1) % 4, answers);
            answers.add((long) x.alike(i, (i + 2) % 4));
        }
        answers.add(x.trace());
        answers.add((long) x.type(0x20, 1));
        answers.add((long) x.program(1));
        askOne(x, 1, answers);
        answers.add((long) x.type(0x20202020, 4));
        answers.add((long) x.clear());
        answers.add((long) x.type(0x723b71, 3));
        answers.add((long) x.program(2));
        askOne(x, 2, answers);
        askTwo(x, 2, 1, answers);
        answers.add((long) x.count(0));
        answers.add((long) x.count(1));
        answers.add(x.trace());
        CHECKS.holds("an object has 512 calls at most", answers.size() + callsToMake() < MOST_CALLS);
        return answers.stream().mapToLong(Long::longValue).toArray();
    }

    private static void askOne(TestedLoops x, int i, List<Long> answers) {
        for (int place = 0; place < 17; place++) {
            int goes = x.next(i, place, 1, 0);
            answers.add((long) goes);
            if (goes == BAD) {
                break;
            }
            answers.add((long) x.next(i, place, place % 4, 1));
            answers.add((long) x.act(i, place));
        }
        answers.add((long) x.dead(i));
        answers.add((long) x.fewest(i));
        answers.add((long) x.ahead(i, 2));
        answers.add((long) x.behind(i, 13));
        answers.add(x.many(i, 0));
        answers.add(x.many(i, 2));
        answers.add((long) x.lets(i, 2, 148));
        answers.add((long) x.walk(i, 2, 148, 0));
        answers.add((long) x.walk(i, 2, 148, 1));
        answers.add((long) x.size(i));
    }

    private static void askTwo(TestedLoops x, int i, int j, List<Long> answers) {
        answers.add((long) x.alike(i, j));
        answers.add(x.apart(i, j));
        answers.add((long) x.far(i, j));
        answers.add((long) x.within(i, j));
        answers.add((long) x.within(j, i));
    }
}
