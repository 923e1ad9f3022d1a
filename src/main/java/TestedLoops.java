/**
 * Small programs of unknown acts with tests, choices and loops, told by texts, and what can be
 * asked about the rows of acts that they let. The words are those of the document.
 */
public final class TestedLoops {
    public static final int BAD = -1, FULL = -3, NONE = -9;

    private static final int PROGRAMS = 4;
    private static final int ATOMS = 4;
    private static final int ACTS = 3;
    private static final int NO_ACT = 0;
    private static final int NO_ATOM = 0;
    private static final int ALL_ATOMS = 15;
    private static final int MOST_BYTES = 300;
    private static final int MOST_PLACES = 16;
    private static final int MOST_OPEN = 8;
    private static final int MOST_ACTS_GIVEN = 12;
    private static final int MOST_ACTS_TOLD = 16;
    private static final int MOST_ACTS_COUNTED = 14;
    private static final int TOO_FAR = -10;
    private static final int NO_FAULT = -1;

    /** The end of a program, where else the place of an act would stand. */
    private static final int END = 0;
    /** Stands for "no place any more": behind all places, so that rows of pairs have room for it. */
    private static final int LOST = MOST_PLACES + 1;

    private static final int PART = 0, ACT = 1, CHOICE = 2, LOOP = 3, WANT = 4;
    /** A step that no statement of the text stands for. */
    private static final int LEAP = 5;

    private final byte[] text = new byte[MOST_BYTES];
    private int length;
    private final Plan[] plans = new Plan[PROGRAMS];
    private final Reader reader = new Reader();
    private final Pairs pairs = new Pairs();
    private final Groups groups = new Groups();
    private final Part[] kinds = {new Part(), new Act(), new Choice(), new Loop(), new Want()};
    private final Trace trace = new Trace();
    private final int[] digits = new int[MOST_ACTS_GIVEN + 1];
    private final long[] ways = new long[MOST_PLACES + 1];
    private final long[] longerWays = new long[MOST_PLACES + 1];
    private int came;
    private int goesTo;

    public TestedLoops() {
        for (int i = 0; i < PROGRAMS; i++) {
            plans[i] = new Plan();
        }
    }

    // ---- programs

    public int type(long v, int n) {
        if (n < 1 || n > 8) {
            return BAD;
        }
        if (length + n > MOST_BYTES) {
            return FULL;
        }
        for (int k = n - 1; k >= 0; k--) {
            text[length] = (byte) (v >>> (8 * k));
            length++;
        }
        return length;
    }

    public int clear() {
        int had = length;
        length = 0;
        return had;
    }

    public int program(int i) {
        if (!isProgram(i)) {
            return BAD;
        }
        int fault = reader.read(text, length);
        if (fault != NO_FAULT) {
            return -10 - fault;
        }
        plans[i] = reader.giveFor(plans[i]);
        length = 0;
        return plans[i].places;
    }

    public int next(int i, int place, int atom, int what) {
        if (!isProgram(i) || !plans[i].canGoFrom(place)) {
            return BAD;
        }
        if (atom < 0 || atom >= ATOMS || what < 0 || what > 1) {
            return BAD;
        }
        int goes = plans[i].goes(place, atom);
        return what == 0 ? goes : plans[i].actAt(goes);
    }

    public int act(int i, int place) {
        if (!isProgram(i) || !plans[i].isPlace(place)) {
            return BAD;
        }
        return plans[i].actAt(place);
    }

    // ---- two programs

    public int alike(int i, int j) {
        if (!isProgram(i) || !isProgram(j)) {
            return BAD;
        }
        return pairs.findRow(plans[i], plans[j], true) ? 0 : 1;
    }

    public long apart(int i, int j) {
        if (!isProgram(i) || !isProgram(j)) {
            return BAD;
        }
        if (!pairs.findRow(plans[i], plans[j], true)) {
            return NONE;
        }
        return pairs.foundActs > MOST_ACTS_TOLD ? TOO_FAR : pairs.foundRow;
    }

    public int far(int i, int j) {
        if (!isProgram(i) || !isProgram(j)) {
            return BAD;
        }
        return pairs.findRow(plans[i], plans[j], true) ? pairs.foundActs : NONE;
    }

    public int within(int i, int j) {
        if (!isProgram(i) || !isProgram(j)) {
            return BAD;
        }
        return pairs.findRow(plans[i], plans[j], false) ? 0 : 1;
    }

    // ---- one program

    public int dead(int i) {
        if (!isProgram(i)) {
            return BAD;
        }
        int bits = 0;
        for (int place = 1; place <= plans[i].places; place++) {
            if (!plans[i].isLive(place)) {
                bits |= 1 << place;
            }
        }
        return bits;
    }

    public int fewest(int i) {
        if (!isProgram(i)) {
            return BAD;
        }
        return groups.howMany(plans[i]);
    }

    public int ahead(int i, int set) {
        if (!isProgram(i) || set < 0 || set > ALL_ATOMS) {
            return BAD;
        }
        int atoms = 0;
        for (int atom = 0; atom < ATOMS; atom++) {
            if ((plans[i].lastsBy(0, atom) & ~set) == 0) {
                atoms |= 1 << atom;
            }
        }
        return atoms;
    }

    public int behind(int i, int set) {
        if (!isProgram(i) || set < 0 || set > ALL_ATOMS) {
            return BAD;
        }
        int atoms = 0;
        for (int atom = 0; atom < ATOMS; atom++) {
            if (holds(set, atom)) {
                atoms |= plans[i].lastsBy(0, atom);
            }
        }
        return atoms;
    }

    public long many(int i, int n) {
        if (!isProgram(i) || n < 0 || n > MOST_ACTS_COUNTED) {
            return BAD;
        }
        Plan plan = plans[i];
        for (int place = 0; place <= plan.places; place++) {
            ways[place] = plan.endings(place);
        }
        for (int acts = 1; acts <= n; acts++) {
            lengthenWays(plan);
        }
        return ways[0];
    }

    public int lets(int i, int n, long row) {
        if (!isProgram(i) || !takeRow(n, row)) {
            return BAD;
        }
        follow(plans[i], n);
        return came == n && goesTo == END ? 1 : 0;
    }

    public int walk(int i, int n, long row, int what) {
        if (!isProgram(i) || !takeRow(n, row) || what < 0 || what > 1) {
            return BAD;
        }
        follow(plans[i], n);
        return what == 0 ? came : goesTo;
    }

    public int size(int i) {
        if (!isProgram(i)) {
            return BAD;
        }
        Plan plan = plans[i];
        int sum = 0;
        for (int step = 0; step < plan.steps; step++) {
            int kind = plan.kind[step];
            if (kind >= PART && kind < kinds.length) {
                sum += kinds[kind].weigh(plan.numberOf(step), trace);
            }
        }
        return sum;
    }

    public int count(int what) {
        if (what == 1) {
            return length;
        }
        if (what != 0) {
            return BAD;
        }
        int places = 0;
        for (int i = 0; i < PROGRAMS; i++) {
            places += plans[i].places;
        }
        return places;
    }

    public long trace() {
        return trace.sum;
    }

    // ---- what the calls share

    private static boolean isProgram(int i) {
        return i >= 0 && i < PROGRAMS;
    }

    private static boolean holds(int set, int atom) {
        return (set >> atom & 1) == 1;
    }

    /** From the rows of some number of acts that are let from each place on to those of one more. */
    private void lengthenWays(Plan plan) {
        for (int place = 0; place <= plan.places; place++) {
            long sum = 0;
            for (int atom = 0; atom < ATOMS; atom++) {
                int goes = plan.goes(place, atom);
                sum += plan.isPlace(goes) ? ways[goes] : 0;
            }
            longerWays[place] = sum;
        }
        System.arraycopy(longerWays, 0, ways, 0, plan.places + 1);
    }

    /** Takes a row's number apart into its digits; false: there is no such row. */
    private boolean takeRow(int n, long row) {
        if (n < 0 || n > MOST_ACTS_GIVEN || row < 0) {
            return false;
        }
        long rest = row;
        for (int k = n; k > 0; k--) {
            digits[k] = (int) (rest % (ACTS * ATOMS));
            rest /= ACTS * ATOMS;
        }
        if (rest >= ATOMS) {
            return false;
        }
        digits[0] = (int) rest;
        return true;
    }

    /** Walks the row that was taken apart, as far as its acts come as told. */
    private void follow(Plan plan, int n) {
        came = 0;
        goesTo = plan.goes(0, digits[0]);
        for (int k = 1; k <= n; k++) {
            if (plan.actAt(goesTo) != digits[k] / ATOMS + 1) {
                return;
            }
            came++;
            goesTo = plan.goes(goesTo, digits[k] % ATOMS);
        }
    }

    /**
     * A program as steps in a row. With an atom of its set a step goes on to the step behind it,
     * with another one to the step that it names; an act's step names the act's place.
     */
    private static final class Plan {
        final int[] kind = new int[MOST_BYTES];
        final int[] atoms = new int[MOST_BYTES];
        final int[] to = new int[MOST_BYTES];
        int steps;
        /** Of each place the step with which it goes on. */
        final int[] stepOf = new int[MOST_PLACES + 1];
        final int[] actOf = new int[MOST_PLACES + 1];
        int places;
        final int[] table = new int[(MOST_PLACES + 1) * ATOMS];
        final int[] lasts = new int[MOST_PLACES + 1];
        int reached;

        Plan() {
            add(PART, ALL_ATOMS, NONE);
            settle();
        }

        void empty() {
            steps = 0;
            places = 0;
        }

        /** A token makes one step at most, so a text has never more of them than there is room for. */
        int add(int stepKind, int stepAtoms, int stepTo) {
            int step = Math.min(steps, MOST_BYTES - 1);
            kind[step] = stepKind;
            atoms[step] = stepAtoms;
            to[step] = stepTo;
            steps = step + 1;
            return step;
        }

        /** False: there are as many places as there may be. */
        boolean addPlace(int act) {
            if (places >= MOST_PLACES) {
                return false;
            }
            places++;
            add(ACT, ALL_ATOMS, places);
            stepOf[places] = steps;
            actOf[places] = act;
            return true;
        }

        /** What a statement's size counts: its act's number, or the atoms that its test lets. */
        int numberOf(int step) {
            return kind[step] == ACT ? actAt(to[step]) : Integer.bitCount(atoms[step]);
        }

        /** Works out what the calls ask again and again. */
        void settle() {
            for (int place = 0; place <= places; place++) {
                for (int atom = 0; atom < ATOMS; atom++) {
                    table[place * ATOMS + atom] = run(place, atom);
                }
            }
            gatherLasts();
            gatherReached();
        }

        private int run(int place, int atom) {
            int step = stepOf[place];
            for (int taken = 0; taken <= steps; taken++) {
                if (step < 0) {
                    return NONE;
                }
                if (step >= steps) {
                    return END;
                }
                if (kind[step] == ACT) {
                    return to[step];
                }
                step = holds(atoms[step], atom) ? step + 1 : to[step];
            }
            // more steps than there are: one came twice with the same atom, so they never end
            return NONE;
        }

        /** A round brings the last atoms one act further; no way to the end needs more acts than places. */
        private void gatherLasts() {
            for (int place = 0; place <= places; place++) {
                lasts[place] = 0;
            }
            for (int round = 0; round <= places; round++) {
                for (int place = 0; place <= places; place++) {
                    for (int atom = 0; atom < ATOMS; atom++) {
                        lasts[place] |= lastsBy(place, atom);
                    }
                }
            }
        }

        private void gatherReached() {
            reached = 1;
            for (int round = 0; round < places; round++) {
                for (int place = 0; place <= places; place++) {
                    if (holds(reached, place)) {
                        reachFrom(place);
                    }
                }
            }
        }

        private void reachFrom(int place) {
            for (int atom = 0; atom < ATOMS; atom++) {
                int goes = goes(place, atom);
                if (isPlace(goes)) {
                    reached |= 1 << goes;
                }
            }
        }

        /** Whether an act's place has this number. */
        boolean isPlace(int place) {
            return place > 0 && place <= places;
        }

        /** The beginning is no act's place, but it goes on from there too. */
        boolean canGoFrom(int place) {
            return place >= 0 && place <= places;
        }

        /** NO_ACT where there is no act's place. */
        int actAt(int place) {
            return isPlace(place) ? actOf[place] : NO_ACT;
        }

        /** The act's place that it comes to, or END, or NONE; from LOST it comes nowhere. */
        int goes(int place, int atom) {
            boolean stands = canGoFrom(place) && atom >= 0 && atom < ATOMS;
            return stands ? table[place * ATOMS + atom] : NONE;
        }

        /** The place that it comes to, if the act there is this one, or else LOST. */
        int goesBy(int place, int atom, int act) {
            int goes = goes(place, atom);
            return actAt(goes) == act ? goes : LOST;
        }

        /** The last atoms of the rows that are let from the place on and begin with the atom. */
        int lastsBy(int place, int atom) {
            int goes = goes(place, atom);
            if (goes == END) {
                return 1 << atom;
            }
            return isPlace(goes) ? lasts[goes] : NO_ATOM;
        }

        /** With how many atoms it goes from the place to its end. */
        int endings(int place) {
            int found = 0;
            for (int atom = 0; atom < ATOMS; atom++) {
                found += goes(place, atom) == END ? 1 : 0;
            }
            return found;
        }

        /** Whether the place is in a row that is let. */
        boolean isLive(int place) {
            return canGoFrom(place) && holds(reached, place) && lasts[place] != NO_ATOM;
        }
    }

    /** Reads a text into a plan: first into tokens, then by the grammar. */
    private static final class Reader {
        private static final int SKIP = 0, STOP = 1, IF = 2, THEN = 3, ELSE = 4, FI = 5, WHILE = 6,
            DO = 7, OD = 8, WANTED = 9, TEST_B = 10, TEST_C = 11, ACT_P = 12, ACT_Q = 13, ACT_R = 14;
        private static final int ZERO = 15, ONE = 16, SEMICOLON = 17, OR = 18, AND = 19, NOT = 20,
            OPEN = 21, CLOSE = 22;
        private static final int TEXT_END = 23, UNKNOWN = 24;
        /** In the order of the tokens' numbers, each in a column as wide as WORD_ROOM. */
        private static final String WORDS =
            "skip  stop  if    then  else  fi    while do    od    want  b     c     p     q     r     ";
        private static final String SIGNS = "01;|&!()";
        private static final int WORD_ROOM = 6;
        private static final int BLANK = 32;
        private static final int ATOMS_WITH_B = 10;
        private static final int ATOMS_WITH_C = 12;
        private static final int REFUSED = -1;

        private final int[] tokens = new int[MOST_BYTES + 1];
        private final int[] begins = new int[MOST_BYTES + 1];
        private int now;
        private int fault;
        /** No program's own plan, so that a fault leaves the programs as they were. */
        private Plan plan = new Plan();

        Reader() {
        }

        /** NO_FAULT, or the place of the fault; then the plan is of no use. */
        int read(byte[] text, int length) {
            plan.empty();
            scan(text, Math.min(length, MOST_BYTES));
            now = 0;
            fault = NO_FAULT;
            if (readStatements(0) && isNow(TEXT_END)) {
                plan.settle();
            }
            return fault;
        }

        /** Gives away the plan that was read; the next text is read into the old one. */
        Plan giveFor(Plan old) {
            Plan given = plan;
            plan = old;
            return given;
        }

        private void scan(byte[] text, int length) {
            int found = 0;
            for (int at = 0; at < length; at++) {
                int sign = text[at] & 255;
                boolean withinWord = isLetter(sign) && at > 0 && isLetter(text[at - 1] & 255);
                if (sign != BLANK && !withinWord) {
                    tokens[found] = isLetter(sign)
                        ? wordToken(text, at, wordEnd(text, at, length)) : signToken(sign);
                    begins[found] = at;
                    found++;
                }
            }
            tokens[found] = TEXT_END;
            begins[found] = length;
        }

        private static boolean isLetter(int sign) {
            return sign >= 'a' && sign <= 'z';
        }

        private static int wordEnd(byte[] text, int at, int length) {
            int end = at + 1;
            while (end < length && isLetter(text[end] & 255)) {
                end++;
            }
            return end;
        }

        private static int wordToken(byte[] text, int from, int past) {
            int letters = past - from;
            if (letters >= WORD_ROOM) {
                return UNKNOWN;
            }
            for (int token = SKIP; token <= ACT_R; token++) {
                int column = token * WORD_ROOM;
                int same = 0;
                while (same < letters && WORDS.charAt(column + same) == text[from + same]) {
                    same++;
                }
                if (same == letters && WORDS.charAt(column + same) == BLANK) {
                    return token;
                }
            }
            return UNKNOWN;
        }

        private static int signToken(int sign) {
            int column = SIGNS.indexOf((char) sign);
            return column < 0 ? UNKNOWN : ZERO + column;
        }

        private int token() {
            return now < tokens.length ? tokens[now] : TEXT_END;
        }

        /** The token that is next can't stand there. */
        private boolean refuse() {
            fault = now < begins.length ? begins[now] : MOST_BYTES;
            return false;
        }

        private boolean isNow(int wanted) {
            return token() == wanted || refuse();
        }

        private boolean take(int wanted) {
            if (token() != wanted) {
                return refuse();
            }
            now++;
            return true;
        }

        private boolean readStatements(int open) {
            boolean stands = readStatement(open);
            for (int k = 0; k < MOST_BYTES && stands && token() == SEMICOLON; k++) {
                now++;
                stands = readStatement(open);
            }
            return stands;
        }

        private boolean readStatement(int open) {
            switch (token()) {
                case SKIP:
                    plan.add(PART, ALL_ATOMS, NONE);
                    return take(SKIP);
                case STOP:
                    plan.add(PART, NO_ATOM, NONE);
                    return take(STOP);
                case ACT_P:
                case ACT_Q:
                case ACT_R:
                    return plan.addPlace(token() - ACT_P + 1) ? take(token()) : refuse();
                case IF:
                    return open < MOST_OPEN ? readChoice(open + 1) : refuse();
                case WHILE:
                    return open < MOST_OPEN ? readLoop(open + 1) : refuse();
                case WANTED:
                    return readWant(open);
                default:
                    return refuse();
            }
        }

        private boolean readChoice(int open) {
            now++;
            int atoms = readTest(open);
            if (atoms == REFUSED || !take(THEN)) {
                return false;
            }
            int choice = plan.add(CHOICE, atoms, NONE);
            if (!readStatements(open)) {
                return false;
            }
            if (token() == ELSE) {
                now++;
                int leap = plan.add(LEAP, NO_ATOM, NONE);
                plan.to[choice] = plan.steps;
                if (!readStatements(open)) {
                    return false;
                }
                plan.to[leap] = plan.steps;
            } else {
                plan.to[choice] = plan.steps;
            }
            return take(FI);
        }

        private boolean readLoop(int open) {
            now++;
            int atoms = readTest(open);
            if (atoms == REFUSED || !take(DO)) {
                return false;
            }
            int loop = plan.add(LOOP, atoms, NONE);
            if (!readStatements(open)) {
                return false;
            }
            plan.add(LEAP, NO_ATOM, loop);
            plan.to[loop] = plan.steps;
            return take(OD);
        }

        private boolean readWant(int open) {
            now++;
            int atoms = readTest(open);
            if (atoms == REFUSED) {
                return false;
            }
            plan.add(WANT, atoms, NONE);
            return true;
        }

        /** The atoms with which the test is so, or REFUSED. */
        private int readTest(int open) {
            int any = NO_ATOM;
            int both = ALL_ATOMS;
            for (int k = 0; k < MOST_BYTES; k++) {
                int one = readOne(open);
                if (one == REFUSED) {
                    return REFUSED;
                }
                both &= one;
                if (token() != AND) {
                    any |= both;
                    both = ALL_ATOMS;
                    if (token() != OR) {
                        return any;
                    }
                }
                now++;
            }
            return any;
        }

        private int readOne(int open) {
            switch (token()) {
                case TEST_B:
                    now++;
                    return ATOMS_WITH_B;
                case TEST_C:
                    now++;
                    return ATOMS_WITH_C;
                case ZERO:
                    now++;
                    return NO_ATOM;
                case ONE:
                    now++;
                    return ALL_ATOMS;
                case NOT:
                    return open < MOST_OPEN ? readNot(open + 1) : refuseTest();
                case OPEN:
                    return open < MOST_OPEN ? readBrackets(open + 1) : refuseTest();
                default:
                    return refuseTest();
            }
        }

        private int readNot(int open) {
            now++;
            int one = readOne(open);
            return one == REFUSED ? REFUSED : ALL_ATOMS - one;
        }

        private int readBrackets(int open) {
            now++;
            int atoms = readTest(open);
            return atoms != REFUSED && take(CLOSE) ? atoms : REFUSED;
        }

        private int refuseTest() {
            refuse();
            return REFUSED;
        }
    }

    /**
     * Two plans walked side by side, as pairs of places, those by smaller rows first: so each pair
     * comes by the first of the rows that lead to it, and the first that tells is the one asked for.
     */
    private static final class Pairs {
        private static final int SIDE = LOST + 1;

        private final int[] seen = new int[SIDE * SIDE];
        private final int[] ones = new int[SIDE * SIDE];
        private final int[] others = new int[SIDE * SIDE];
        private final int[] acts = new int[SIDE * SIDE];
        /** The rows by which the pairs come, with 0 for the last atom. */
        private final long[] rows = new long[SIDE * SIDE];
        private int known;
        int foundActs;
        long foundRow;

        Pairs() {
        }

        /** Looks for the first row that just one lets, or (not bothWays) that the first alone lets. */
        boolean findRow(Plan one, Plan other, boolean bothWays) {
            for (int k = 0; k < seen.length; k++) {
                seen[k] = 0;
            }
            known = 0;
            note(0, 0, 0, 0L);
            for (int k = 0; k < known && k < seen.length; k++) {
                for (int atom = 0; atom < ATOMS; atom++) {
                    boolean oneEnds = one.goes(ones[k], atom) == END;
                    boolean otherEnds = other.goes(others[k], atom) == END;
                    if (oneEnds != otherEnds && (bothWays || oneEnds)) {
                        foundActs = acts[k];
                        foundRow = rows[k] + atom;
                        return true;
                    }
                }
                goOn(one, other, k);
            }
            return false;
        }

        private void goOn(Plan one, Plan other, int k) {
            for (int atom = 0; atom < ATOMS; atom++) {
                for (int act = 1; act <= ACTS; act++) {
                    long row = (rows[k] + atom) * (ACTS * ATOMS) + (act - 1) * ATOMS;
                    note(one.goesBy(ones[k], atom, act), other.goesBy(others[k], atom, act),
                        acts[k] + 1, row);
                }
            }
        }

        private void note(int one, int other, int rowActs, long row) {
            int pair = one * SIDE + other;
            boolean bothLost = one == LOST && other == LOST;
            boolean hasRoom = pair >= 0 && pair < seen.length && known < ones.length;
            if (bothLost || !hasRoom || seen[pair] != 0) {
                return;
            }
            seen[pair] = 1;
            ones[known] = one;
            others[known] = other;
            acts[known] = rowActs;
            rows[known] = row;
            known++;
        }
    }

    /** Sorts the live places by what rows are let from them on, telling more apart each round. */
    private static final class Groups {
        private static final int TO_NOTHING = -1;

        /** Of each live place the first place that is not yet told apart from it. */
        private final int[] first = new int[MOST_PLACES + 1];
        private final int[] finer = new int[MOST_PLACES + 1];

        Groups() {
        }

        int howMany(Plan plan) {
            for (int place = 0; place <= plan.places; place++) {
                first[place] = 0;
            }
            for (int round = 0; round <= MOST_PLACES; round++) {
                if (!refine(plan)) {
                    break;
                }
            }
            int found = 0;
            for (int place = 0; place <= plan.places; place++) {
                found += plan.isLive(place) && first[place] == place ? 1 : 0;
            }
            return found;
        }

        /** Whether anything changed. */
        private boolean refine(Plan plan) {
            boolean changed = false;
            for (int place = 0; place <= plan.places; place++) {
                finer[place] = firstLike(plan, place);
                changed |= finer[place] != first[place];
            }
            System.arraycopy(finer, 0, first, 0, plan.places + 1);
            return changed;
        }

        private int firstLike(Plan plan, int place) {
            for (int earlier = 0; earlier < place; earlier++) {
                if (plan.isLive(earlier) && goAlike(plan, earlier, place)) {
                    return earlier;
                }
            }
            return place;
        }

        private boolean goAlike(Plan plan, int one, int other) {
            for (int atom = 0; atom < ATOMS; atom++) {
                if (trail(plan, one, atom) != trail(plan, other, atom)) {
                    return false;
                }
            }
            return true;
        }

        /** A number for what can be seen of going on: the end, nothing, or an act and a group. */
        private int trail(Plan plan, int place, int atom) {
            int goes = plan.goes(place, atom);
            if (goes == END) {
                return END;
            }
            if (!plan.isPlace(goes) || !plan.isLive(goes)) {
                return TO_NOTHING;
            }
            return plan.actAt(goes) * (MOST_PLACES + 1) + first[goes];
        }
    }

    /** What size() adds as it asks the kinds. */
    private static final class Trace {
        long sum;

        Trace() {
        }
    }

    /** The kinds of statements; each asks the one above it by "super". */
    private static class Part {
        Part() {
        }

        int weigh(int number, Trace trace) {
            trace.sum += 1;
            return 1;
        }
    }

    private static final class Act extends Part {
        Act() {
        }

        @Override
        int weigh(int number, Trace trace) {
            trace.sum += 10;
            return super.weigh(number, trace) + number;
        }
    }

    private static class Choice extends Part {
        Choice() {
        }

        @Override
        int weigh(int number, Trace trace) {
            trace.sum += 100;
            return super.weigh(number, trace) + number;
        }
    }

    private static final class Loop extends Choice {
        Loop() {
        }

        @Override
        int weigh(int number, Trace trace) {
            trace.sum += 1000;
            return 2 * super.weigh(number, trace);
        }
    }

    private static final class Want extends Part {
        Want() {
        }

        @Override
        int weigh(int number, Trace trace) {
            trace.sum += 10000;
            return super.weigh(number, trace) + ATOMS - number;
        }
    }
}
