/**
 * The boundary cases that the document's sentences name, one sentence a method, with the sentence
 * above it. What a refused call leaves as it was is looked at in RefusedTests.
 */
public final class BoundaryTests {
    private static final int BAD = TestedLoops.BAD;
    private static final int FULL = TestedLoops.FULL;
    private static final int NONE = TestedLoops.NONE;
    private static final String SIXTEEN = "p;p;p;p;p;p;p;p;p;p;p;p;p;p;p;p";
    /** 12 to the k. */
    private static final long[] POWERS = powers();

    private static final Checks CHECKS = new Checks();

    private BoundaryTests() {
    }

    public static void main(String[] args) {
        atMostSoManyCalls();
        programsAtFirst();
        typedBytes();
        textFull();
        textOfThreeHundred();
        cleared();
        becomesProgram();
        nothingOfTheOldOne();
        nothingOfAnotherQuestion();
        placesAsTheyStand();
        actOfAPlace();
        fromAPlaceWithAnAtom();
        stuck();
        rowNumbers();
        rowsInOrder();
        alikeAndWithin();
        apartWhole();
        deadBits();
        fewestPlaces();
        sets();
        howMany();
        letRows();
        walkedRows();
        sizes();
        traces();
        counts();
        CHECKS.finish("BoundaryTests");
    }

    private static void due(String call, long got, long want) {
        CHECKS.due(call, got, want);
    }

    private static long[] powers() {
        long[] powers = new long[17];
        powers[0] = 1;
        for (int k = 1; k < powers.length; k++) {
            powers[k] = 12 * powers[k - 1];
        }
        return powers;
    }

    /** "An object is used for at most 512 calls after it has been made". */
    private static void atMostSoManyCalls() {
        TestedLoops x = new TestedLoops();
        for (int k = 0; k < 127; k++) {
            due("type", x.type(0x703b71, 3), 3);
            due("program", x.program(k % 4), 2);
            due("size", x.size(k % 4), 5);
            due("trace", x.trace(), 22 * (k + 1));
        }
        due("call 509", x.many(3, 2), 64);
        due("call 510", x.type(112, 1), 1);
        due("call 511", x.count(0), 8);
        due("call 512", x.clear(), 1);
    }

    /** "PROGRAMS 0 .. 3 (at first "skip")", and promise 1. */
    private static void programsAtFirst() {
        TestedLoops x = new TestedLoops();
        due("trace at first", x.trace(), 0);
        due("bytes at first", x.count(1), 0);
        due("places at first", x.count(0), 0);
        due("clear at first", x.clear(), 0);
        for (int i = 0; i < 4; i++) {
            due("no act", x.act(i, 1), BAD);
            due("no place", x.next(i, 1, 0, 0), BAD);
            due("none is dead", x.dead(i), 0);
            due("one place", x.fewest(i), 1);
            for (int set = 0; set < 16; set++) {
                due("skip leaves what is so", x.behind(i, set), set);
                due("skip, ahead", x.ahead(i, set), set);
            }
            for (int n = 0; n <= 14; n++) {
                due("rows of skip", x.many(i, n), n == 0 ? 4 : 0);
            }
            due("size of skip", x.size(i), 1);
            due("trace of skip", x.trace(), i + 1);
        }
        due("one told", Checks.tell(x, 3, "p"), 1);
        for (int i = 0; i < 3; i++) {
            due("still skip", x.alike(i, (i + 1) % 3), 1);
            due("not the one told", x.alike(i, 3), 0);
        }
        due("the first one told", Checks.tell(x, 0, "p"), 1);
        due("both told", x.alike(0, 3), 1);
        due("still skip between", x.alike(1, 2), 1);
    }

    /** "The lowest n (1 .. 8) bytes of v, the highest of them first, come to THE TEXT". */
    private static void typedBytes() {
        String text = "p;q;r ;p";
        for (int n = 1; n <= 8; n++) {
            TestedLoops x = new TestedLoops();
            long v = 0;
            for (int k = 0; k < text.length(); k++) {
                v = v << 8 | text.charAt(k);
            }
            due("type " + n, x.type(v, n), n);
            due("that many bytes", x.count(1), n);
            String lowest = text.substring(8 - n);
            TestedLoops twin = new TestedLoops();
            for (int k = 0; k < n; k++) {
                due("byte by byte", twin.type(lowest.charAt(k), 1), k + 1);
            }
            due("the same text", x.program(0), twin.program(0));
            due("is left or taken", x.count(1), twin.count(1));
        }
        for (int n = 1; n <= 7; n++) {
            TestedLoops x = new TestedLoops();
            long high = -1L << (8 * n);
            due("higher bytes are left out", x.type(high | 'q' | 0x20202020202020L & ~high & ~255L, n), n);
            due("q behind blanks", x.program(0), 1);
            due("it is q", x.act(0, 1), 2);
        }
        TestedLoops x = new TestedLoops();
        due("a long below 0", x.type(Long.MIN_VALUE, 8), 8);
        due("its first byte is 128", x.program(0), -10);
        due("the lowest of a long below 0", x.type(Long.MIN_VALUE, 1), 9);
        x.clear();
        due("bytes 0 are bytes", x.type(0, 8), 8);
        due("and begin no token", x.program(0), -10);
        x.clear();
        due("q with all bits ahead of it", x.type(-256L | 'q', 1), 1);
        due("is q", x.program(0), 1);
    }

    /** "FULL": a text has "300 bytes at most". */
    private static void textFull() {
        for (int n = 1; n <= 8; n++) {
            TestedLoops x = new TestedLoops();
            int had = 0;
            for (; had + n <= 300; had += n) {
                due("there is room", x.type(0x2020202020202020L, n), had + n);
            }
            due("n are too many", x.type(0x2020202020202020L, n), FULL);
            due("none came", x.count(1), had);
            for (int more = 8; more > 300 - had; more--) {
                due("more are too many", x.type(0x2020202020202020L, more), FULL);
            }
            due("BAD is ahead of FULL: 9", x.type(32, 9), BAD);
            due("BAD is ahead of FULL: 0", x.type(32, 0), BAD);
            for (; had < 300; had++) {
                due("one by one", x.type(32, 1), had + 1);
            }
            due("300 are the most", x.type(32, 1), FULL);
            due("300 bytes", x.count(1), 300);
            due("300 blanks end too early", x.program(0), -310);
            due("300 bytes still", x.clear(), 300);
        }
    }

    /** "told by a text (300 bytes at most)": all of them are read. */
    private static void textOfThreeHundred() {
        TestedLoops x = new TestedLoops();
        due("60 statements", Checks.tell(x, 0, "skip;".repeat(59) + "skip "), 0);
        due("all 60 have a size", x.size(0), 60);
        due("the last one counts", Checks.tell(x, 0, "skip;".repeat(59) + " stop"), 0);
        due("stuck at the last one", x.next(0, 0, 0, 0), NONE);
        due("an act is the last byte", Checks.tell(x, 0, " ".repeat(299) + "r"), 1);
        due("it is r", x.act(0, 1), 3);
        due("a long test", Checks.tell(x, 0, "want b" + "|b".repeat(146) + "|c"), 0);
        due("with all of it", x.behind(0, 15), 14);
        due("a long test with &", Checks.tell(x, 0, "want b" + "&1".repeat(146) + "&c"), 0);
        due("with all of that", x.behind(0, 15), 8);
        x = new TestedLoops();
        due("it ends too early", Checks.tell(x, 0, "skip;".repeat(60)), -310);
        due("too early within a word", Checks.tell(x, 0, "skip;".repeat(59) + "p;ski"), -10 - 297);
        due("the last byte begins none", Checks.tell(x, 0, "p" + " ".repeat(298) + "@"), -309);
        due("the last byte can't stand", Checks.tell(x, 0, "p" + " ".repeat(298) + "p"), -309);
        due("a word of 300 letters", Checks.tell(x, 0, "p".repeat(300)), -10);
        due("a word to the end", Checks.tell(x, 0, "p;" + "q".repeat(298)), -12);
        due("299 bytes", Checks.tell(x, 0, "p" + " ".repeat(298)), 1);
        String deep = "while b do if c then ".repeat(4);
        String more = "skip;".repeat(37);
        due("eight open in a long text", Checks.tell(x, 0, deep + more + "p" + " fi od".repeat(4)), 1);
        due("goes to p", x.next(0, 0, 3, 0), 1);
        due("stuck", x.next(0, 0, 1, 0), NONE);
    }

    /** "THE TEXT is empty: how many bytes it had." */
    private static void cleared() {
        TestedLoops x = new TestedLoops();
        due("of an empty text", x.clear(), 0);
        due("of an empty text again", x.clear(), 0);
        for (int k = 1; k <= 2; k++) {
            due("300 bytes", Checks.typeText(x, "p;".repeat(150)), 300);
            due("of a full text", x.clear(), 300);
            due("it is empty", x.count(1), 0);
            due("nothing to read", x.program(0), -10);
        }
        due("one byte", x.type(112, 1), 1);
        due("of one byte", x.clear(), 1);
        due("p", Checks.tell(x, 1, "p"), 1);
        due("behind a program", x.clear(), 0);
        due("programs stay", x.count(0), 1);
    }

    /** "THE TEXT becomes a PROGRAM, and is empty then: how many ACTS' PLACES it has." */
    private static void becomesProgram() {
        TestedLoops x = new TestedLoops();
        due("none", Checks.tell(x, 0, "stop"), 0);
        due("is empty then", x.clear(), 0);
        due("one", Checks.tell(x, 1, "r"), 1);
        due("sixteen", Checks.tell(x, 2, SIXTEEN), 16);
        due("is empty then, too", x.count(1), 0);
        due("an empty text is none", x.program(2), -10);
        due("the program stays", x.act(2, 16), 1);
        due("a fault", Checks.tell(x, 2, SIXTEEN + ";"), -42);
        due("goes on behind a fault", x.type('s' << 24 | 't' << 16 | 'o' << 8 | 'p', 4), 36);
        due("stands then", x.program(2), 16);
        due("by the whole text", x.many(2, 14), 0);
        due("stop at its end", x.dead(2), 0x1fffe);
        due("BAD is ahead of a fault", Checks.tell(x, 4, "p p"), BAD);
        due("the fault is still there", x.program(3), -12);
        due("the first program", Checks.tell(x, 0, "q"), 1);
        due("the last program", Checks.tell(x, 3, "q"), 1);
        due("told alike", x.alike(0, 3), 1);
    }

    /** A program told anew has nothing of the one it was, nor of a text with a fault. */
    private static void nothingOfTheOldOne() {
        String[] texts = {SIXTEEN, "skip", "while b do p; q od", "stop", "if c then r; stop else q fi", "want b; r",
            "p;q;r;p;q;r;p;q;r;p;q;r;p;q;r;while 1 do p od", "p", "while !b do want c; q od"};
        String[] faults = {"", SIXTEEN + ";p", "r;r;r;r;if b then stop", "while 1 do stop; r od fi"};
        for (int first = 0; first < texts.length; first++) {
            for (int then = 0; then < texts.length; then++) {
                TestedLoops x = Checks.with(texts[first], texts[first]);
                Checks.tell(x, 0, faults[(first + then) % faults.length]);
                Checks.tell(x, 0, texts[then]);
                sameAsNew(texts[first] + " / " + texts[then], x, 0, Checks.with(texts[then]));
                Checks.tell(x, 2, faults[then % faults.length]);
                Checks.tell(x, 0, texts[first]);
                sameAsNew(texts[then] + " \\ " + texts[first], x, 0, Checks.with(texts[first]));
                due("the other one stays", x.alike(0, 1), 1);
            }
        }
    }

    /** An answer hangs on nothing that was asked about another program ahead of it. */
    private static void nothingOfAnotherQuestion() {
        String[] texts = {SIXTEEN, "if c then while b do p od else while b do p od fi", "p; q", "stop", "while b do p od",
            "r; p; want c", "if b then p; q; r; p else skip fi", "while b do p; while c do p od od"};
        for (String first : texts) {
            for (String then : texts) {
                TestedLoops x = Checks.with(then, first, "stop");
                TestedLoops fresh = Checks.with(then, first, "stop");
                sameAsNew(first + " asked, too", x, 1, Checks.with(first));
                x.many(1, 14);
                x.apart(1, 2);
                x.walk(1, 12, 4 * POWERS[12] - 1, 0);
                sameAsNew(then + " behind " + first, x, 0, Checks.with(then));
                due("many", x.many(0, 5), fresh.many(0, 5));
                due("walk", x.walk(0, 1, 13, 1), fresh.walk(0, 1, 13, 1));
                due("lets", x.lets(0, 0, 2), fresh.lets(0, 0, 2));
                due("apart", x.apart(0, 2), fresh.apart(0, 2));
                due("far", x.far(1, 0), fresh.far(1, 0));
                due("within", x.within(0, 1), fresh.within(0, 1));
                due("alike", x.alike(0, 1), fresh.alike(0, 1));
            }
        }
    }

    private static void sameAsNew(String told, TestedLoops x, int i, TestedLoops fresh) {
        for (int place = 0; place <= 16; place++) {
            due("act of " + told, x.act(i, place), fresh.act(0, place));
            due("next of " + told, x.next(i, place, place % 4, 0), fresh.next(0, place, place % 4, 0));
        }
        due("dead of " + told, x.dead(i), fresh.dead(0));
        due("fewest of " + told, x.fewest(i), fresh.fewest(0));
        due("ahead of " + told, x.ahead(i, 5), fresh.ahead(0, 5));
        due("behind of " + told, x.behind(i, 15), fresh.behind(0, 15));
        due("many of " + told, x.many(i, 2), fresh.many(0, 2));
        due("size of " + told, x.size(i), fresh.size(0));
    }

    /** "an ACT's PLACE: they are numbered from 1 as they stand; 16 at most". */
    private static void placesAsTheyStand() {
        TestedLoops x = Checks.with("if b then while c do r od else q fi; p; if c then p else r; q fi");
        int[] acts = {3, 2, 1, 1, 3, 2};
        for (int k = 0; k < acts.length; k++) {
            due("act of place " + (k + 1), x.act(0, k + 1), acts[k]);
        }
        due("16 in branches", Checks.tell(x, 1, "if b then p;p;p;p;q;q;q;q else r;r;r;r;p;p;p;p fi"), 16);
        due("the ninth", x.act(1, 9), 3);
        due("the last", x.act(1, 16), 1);
        due("17 in branches", Checks.tell(x, 1, "if b then p;p;p;p;q;q;q;q else r;r;r;r;p;p;p;p fi;q"), -10 - 50);
        due("17 that are never come to", Checks.tell(x, 1, "stop;" + SIXTEEN + ";r"), -10 - 37);
        due("17 in a loop", Checks.tell(x, 1, SIXTEEN + ";while b do q od"), -10 - 43);
        due("an earlier fault than the 17th", Checks.tell(x, 1, SIXTEEN + ";;q"), -10 - 32);
        due("a 17th where no act may stand", Checks.tell(x, 1, SIXTEEN + " q"), -10 - 32);
        due("16 and tests with b and c", Checks.tell(x, 1, SIXTEEN + ";want b|c"), 16);
    }

    /** "The ACT of a PLACE (1 ..)." */
    private static void actOfAPlace() {
        TestedLoops x = Checks.with("p", "q;r", SIXTEEN, "skip");
        int[] places = {1, 2, 16, 0};
        for (int i = 0; i < 4; i++) {
            due("place 0 has none", x.act(i, 0), BAD);
            due("one too many", x.act(i, places[i] + 1), BAD);
        }
        due("p is 1", x.act(0, 1), 1);
        due("q is 2", x.act(1, 1), 2);
        due("r is 3", x.act(1, 2), 3);
        due("the sixteenth", x.act(2, 16), 1);
    }

    /** "From a PLACE (0: the beginning; else behind that ACT) with an ATOM", and what = 0 and 1. */
    private static void fromAPlaceWithAnAtom() {
        TestedLoops x = Checks.with(SIXTEEN, "if b & c then r fi", "want !b & !c; q; want c", "skip");
        for (int atom = 0; atom < 4; atom++) {
            due("from the beginning", x.next(0, 0, atom, 0), 1);
            due("behind place 15", x.next(0, 15, atom, 0), 16);
            due("behind the last one", x.next(0, 16, atom, 0), 0);
            due("the end has no act", x.next(0, 16, atom, 1), 0);
            due("only by atom 3", x.next(1, 0, atom, 0), atom == 3 ? 1 : 0);
            due("the act there", x.next(1, 0, atom, 1), atom == 3 ? 3 : 0);
            due("only by atom 0", x.next(2, 0, atom, 0), atom == 0 ? 1 : NONE);
            due("stuck has no act", x.next(2, 0, atom, 1), atom == 0 ? 2 : 0);
            due("bit 1 is c", x.next(2, 1, atom, 0), atom > 1 ? 0 : NONE);
            due("skip", x.next(3, 0, atom, 0), 0);
        }
        due("behind a 17th", x.next(0, 17, 0, 0), BAD);
        due("behind a first that is none", x.next(3, 1, 0, 0), BAD);
    }

    /** "it is STUCK: at stop, at want with a TEST that is not so, or it goes round a loop without an ACT". */
    private static void stuck() {
        String[] texts = {"stop", "skip; stop", "want 0", "want b & !b", "while 1 do skip od", "while 1 do want 1 od",
            "while b | !b do if c then skip else skip fi od", "while 1 do while 0 do p od od",
            "while 1 do while 1 do skip od od", "while 1 do stop od", "while 1 do want 0; p od",
            "while 1 do if 0 then p fi od", "if 1 then stop else p fi", "if 0 then p else stop fi"};
        for (String text : texts) {
            TestedLoops x = Checks.with(text, "r; " + text, text + "; q");
            for (int atom = 0; atom < 4; atom++) {
                due(text, x.next(0, 0, atom, 0), NONE);
                due(text + " behind r", x.next(1, 1, atom, 0), NONE);
                due(text + " with q behind it", x.next(2, 0, atom, 0), NONE);
            }
            due("r is never in a row: " + text, x.dead(1) & 2, 2);
            due("none is let: " + text, x.many(0, 0), 0);
        }
        notStuck("while 0 do stop od");
        notStuck("while b do want !b od; skip", 0, 2);
        notStuck("want 1; if 0 then stop fi");
        notStuck("if b then stop else skip fi", 0, 2);
        String open = "while b do ".repeat(8);
        notStuck(open + "skip" + " od".repeat(8), 0, 2);
        roundWithAnAct();
    }

    private static void notStuck(String text, int... atoms) {
        TestedLoops x = Checks.with(text);
        int set = atoms.length == 0 ? 15 : 0;
        for (int atom : atoms) {
            set |= 1 << atom;
        }
        for (int atom = 0; atom < 4; atom++) {
            due(text + " by " + atom, x.next(0, 0, atom, 0), (set >> atom & 1) == 1 ? 0 : NONE);
        }
    }

    /** Going round a loop to an ACT that is ahead in it is no going round without one. */
    private static void roundWithAnAct() {
        TestedLoops x = Checks.with("while 1 do if b then p fi; if c then q fi od", "while 1 do while 1 do r od od",
            "while b do ".repeat(8) + "p" + " od".repeat(8));
        due("p to p", x.next(0, 1, 1, 0), 1);
        due("p to q", x.next(0, 1, 3, 0), 2);
        due("q to p", x.next(0, 2, 3, 0), 1);
        due("q to q", x.next(0, 2, 2, 0), 2);
        due("p to none", x.next(0, 1, 0, 0), NONE);
        due("q to none", x.next(0, 2, 0, 0), NONE);
        due("a place to itself", x.next(1, 1, 0, 0), 1);
        due("eight loops in", x.next(2, 0, 1, 0), 1);
        due("eight loops round", x.next(2, 1, 1, 0), 1);
        due("eight loops out", x.next(2, 1, 0, 0), 0);
    }

    /** "told as a number: to the base of 12, from the highest"; the first and the last of each length. */
    private static void rowNumbers() {
        for (int n = 0; n <= 12; n++) {
            TestedLoops x = new TestedLoops();
            String least = "want !b&!c" + ";p;want !b&!c".repeat(n);
            String most = "want b&c" + ";r;want b&c".repeat(n);
            due("least", Checks.tell(x, 0, least), n);
            due("most", Checks.tell(x, 1, most), n);
            long last = 4 * POWERS[n] - 1;
            due("the first row of " + n, x.lets(0, n, 0), 1);
            due("only that one", x.lets(0, n, 1), 0);
            due("one row", x.many(0, n), 1);
            due("the last row of " + n, x.lets(1, n, last), 1);
            due("the one ahead of it", x.lets(1, n, last - 1), 0);
            due("there is none behind it", x.lets(1, n, last + 1), BAD);
            due("the last row walked", x.walk(1, n, last, 0), n);
            due("to the end", x.walk(1, n, last, 1), 0);
            Checks.tell(x, 3, "stop");
            due("apart by the first", x.apart(0, 3), 0);
            due("far by the first", x.far(0, 3), n);
            due("apart by the last", x.apart(3, 1), last);
            due("far by the last", x.far(3, 1), n);
        }
        TestedLoops y = Checks.with("want b & !c; q; want c & !b; r; want b & c");
        due("1 q 2 r 3", y.lets(0, 2, (1 * 12 + 4 * 1 + 2) * 12 + 4 * 2 + 3), 1);
        due("the only one", y.many(0, 2), 1);
    }

    /** "ROWS are in order by how many ACTS, then as numbers." */
    private static void rowsInOrder() {
        apartIs("fewer acts go first", "want b&c", "want !b&!c; p; want !b&!c", 0, 3);
        apartIs("the first atom tells first", "want b; p", "want c; p", 1, Checks.row("1p0"));
        apartIs("then the act", "if b then q; want b&c else r; want 0 fi", "want b; r; want !b&!c", 1,
            Checks.row("1q3"));
        apartIs("then the atom behind it", "p; want b", "p; want c", 1, Checks.row("0p1"));
        apartIs("then the next act", "p; if b then q; want b&c else r; want 0 fi", "p; want b; r", 2,
            Checks.row("0p1q3"));
        apartIs("an atom ahead of an act", "p; if b & c then r; r fi", "p; if b & c then r; q fi", 3,
            Checks.row("0p3r0q0"));
        apartIs("by an act only one has", "if b then p else q fi", "if b then p else r fi", 1, Checks.row("0q0"));
        apartIs("by an end only one has", "while b do p od", "if b then p fi", 1, Checks.row("1p1"));
    }

    private static void apartIs(String what, String one, String other, int acts, long row) {
        TestedLoops x = Checks.with(one, other);
        due(what, x.apart(0, 1), row);
        due(what + ", the other way", x.apart(1, 0), row);
        due(what + ", far", x.far(0, 1), acts);
        due(what + ", far the other way", x.far(1, 0), acts);
        due(what + ", not alike", x.alike(0, 1), 0);
        due(what + ", let by one", x.lets(0, acts, row) + x.lets(1, acts, row), 1);
    }

    /** "ALIKE: two PROGRAMS let the same ROWS"; "WITHIN: each ROW that the one lets the other one lets." */
    private static void alikeAndWithin() {
        TestedLoops x = Checks.with("stop", "while 1 do p od", "skip", "want b");
        for (int i = 0; i < 4; i++) {
            due("alike to itself", x.alike(i, i), 1);
            due("not apart from itself", x.apart(i, i), -9);
            due("not far from itself", x.far(i, i), NONE);
            due("within itself", x.within(i, i), 1);
            due("no rows are within any", x.within(0, i), 1);
            due("acts without an end are, too", x.within(1, i), 1);
            due("within no rows", x.within(i, 0), i < 2 ? 1 : 0);
        }
        due("no rows are alike", x.alike(0, 1), 1);
        due("some are within all", x.within(3, 2), 1);
        due("all not within some", x.within(2, 3), 0);
        due("apart by row 0", x.apart(2, 3), 0);
        due("far by row 0", x.far(2, 3), 0);
        TestedLoops y = Checks.with("want b; p", "want c; p", "want b & c; p", "want b | c; p");
        due("neither", y.within(0, 1), 0);
        due("nor the other way", y.within(1, 0), 0);
        due("both", y.within(2, 0) + y.within(2, 1) + y.within(0, 3) + y.within(1, 3), 4);
        due("within as all are", y.within(2, 3), 1);
        due("not round", y.within(3, 2), 0);
    }

    /** "-9: they are ALIKE. -1: BAD. (It is told whole, too, where it has up to 16 ACTS; more: -10.)" */
    private static void apartWhole() {
        String most = "want b&c" + ";r;want b&c".repeat(16);
        apartIsOnly("16 acts, the last row", most, "stop", 16, 4 * POWERS[16] - 1);
        apartIsOnly("15 acts", "want b&c" + ";r;want b&c".repeat(15), "stop", 15, 4 * POWERS[15] - 1);
        apartIsOnly("13 acts", "want b&c" + ";r;want b&c".repeat(13), "stop", 13, 4 * POWERS[13] - 1);
        apartIsOnly("16 acts, row 0", SIXTEEN, "stop", 16, 0);
        // 1, 6, 11, 16 acts, and 1, 6, 11
        apartIsOnly("16 by a loop", "p; while !b do p;p;p;p;p od",
            "p; if !b then p;p;p;p;p; if !b then p;p;p;p;p; want b fi fi", 16, 1);
        // 1, 9, 17 acts, and 1, 9
        apartIsOnly("17 by a loop", "p; while !b do p;p;p;p;p;p;p;p od",
            "p; if !b then p;p;p;p;p;p;p;p; want b fi", 17, -10);
        apartIsOnly("17 of the last act", "r; while b&c do r;r;r;r;r;r;r;r od",
            "r; if b&c then r;r;r;r;r;r;r;r; want !b|!c fi", 17, -10);
        apartIsOnly("18 acts", "while b do q;q;q;q;q;q od; want c",
            "if b then q;q;q;q;q;q; if b then q;q;q;q;q;q;want !b fi fi; want c", 18, -10);
        apartIsOnly("31 acts", "q; while c do q" + ";q".repeat(14) + " od",
            "q; if c then q" + ";q".repeat(14) + "; want !c fi", 31, -10);
    }

    private static void apartIsOnly(String what, String one, String other, int acts, long told) {
        TestedLoops x = Checks.with(one, other, other, one);
        due(what, x.apart(0, 1), told);
        due(what + ", the other way", x.apart(1, 0), told);
        due(what + ", far", x.far(0, 1), acts);
        due(what + ", far the other way", x.far(1, 0), acts);
        due(what + ", not alike", x.alike(0, 1), 0);
        due(what + ", within", x.within(1, 0), 1);
        due(what + ", not within", x.within(0, 1), 0);
        due(what + ", alike", x.apart(0, 3), -9);
        due(what + ", alike too", x.apart(1, 2), -9);
        due(what + ", BAD", x.apart(0, 4), -1);
    }

    /** "DEAD, as bits (of PLACE k bit k)": "PLACES (of ACTS) that are in no ROW that is LET". */
    private static void deadBits() {
        for (int k = 1; k <= 16; k++) {
            TestedLoops x = new TestedLoops();
            String ahead = "p;".repeat(k - 1);
            String behind = ";p".repeat(16 - k);
            due("16 places", Checks.tell(x, 0, ahead + "if 0 then q fi" + behind), 16);
            due("only place " + k, x.dead(0), 1 << k);
            Checks.tell(x, 1, ahead + "if b then q;stop fi" + behind);
            due("to a stop, place " + k, x.dead(1), 1 << k);
            Checks.tell(x, 2, ahead + "q;stop" + behind);
            due("all by stop behind place " + k, x.dead(2), 0x1fffe);
        }
        TestedLoops x = new TestedLoops();
        due("all 16 are in rows", Checks.tell(x, 0, SIXTEEN), 16);
        due("none is dead", x.dead(0), 0);
        Checks.tell(x, 0, SIXTEEN + ";want 0");
        due("all 16 are dead", x.dead(0), 131070);
        Checks.tell(x, 0, "stop");
        due("bit 0 is of no act", x.dead(0), 0);
        Checks.tell(x, 0, "while 1 do " + SIXTEEN + " od");
        due("acts that never come to an end", x.dead(0), 131070);
        Checks.tell(x, 0, "while 1 do " + SIXTEEN + ";want !b od");
        due("nor by a want", x.dead(0), 131070);
        Checks.tell(x, 0, "want b; while c do if !b then p else q fi od");
        due("the first is come to from the last alone", x.dead(0), 0);
        Checks.tell(x, 0, "want b; while c do if !b then p; want !b else q fi od");
        due("come to from the last, with an end", x.dead(0), 0);
        Checks.tell(x, 0, "want b; while c do if !b then p; stop else q fi od");
        due("come to from the last, without one", x.dead(0), 2);
    }

    /** "how many PLACES are told apart .. (0 too), those from which none is LET left out, DEAD ones too". */
    private static void fewestPlaces() {
        fewestIs("stop", 0);
        fewestIs(SIXTEEN + ";stop", 0);
        fewestIs("skip", 1);
        fewestIs("want b & c", 1);
        fewestIs("while b do p od", 1);
        fewestIs("if c then while b do p od else while b do p od fi", 1);
        fewestIs("p", 2);
        fewestIs(SIXTEEN, 17);
        fewestIs("if 1 then skip else " + SIXTEEN + " fi", 1);
        fewestIs("if b then " + SIXTEEN + ";stop fi", 1);
        fewestIs("p; if b then q; stop fi", 2);
        // 0 is told apart from the others, as it must begin with b
        fewestIs("want b; while b do p od", 2);
        fewestIs("while b do " + SIXTEEN + " od", 16);
        fewestIs("while b do if c then p;p;p;p;p;p;p;p else p;p;p;p;p;p;p;p fi od", 8);
        fewestIs("while b do if c then p;p;p;p;p;p;p;p else p;p;p;p;p;p;p;q fi od", 15);
        fewestIs("if b then p; want b; stop else q fi", 2);
        fewestIs("if b then p; stop; q; r fi; r", 2);
    }

    private static void fewestIs(String text, int places) {
        TestedLoops x = Checks.with(text);
        due("fewest of " + text, x.fewest(0), places);
        due("fewest again of " + text, x.fewest(0), places);
    }

    /** "A SET of ATOMS: bits 0 .. 15": AHEAD and BEHIND of none, of each, of all. */
    private static void sets() {
        TestedLoops x = Checks.with("stop", "p", "want b", "if c then q; want b & c fi");
        for (int set = 0; set < 16; set++) {
            due("all rows that are none", x.ahead(0, set), 15);
            due("none behind", x.behind(0, set), 0);
            due("any atom behind an act", x.behind(1, set), set == 0 ? 0 : 15);
            due("only all are ahead", x.ahead(1, set), set == 15 ? 15 : 0);
            due("want keeps", x.behind(2, set), set & 10);
            due("want, ahead", x.ahead(2, set), set & 10 | 5);
            due("by c to 3", x.behind(3, set), set & 3 | ((set & 12) != 0 ? 8 : 0));
            due("3 must be in it", x.ahead(3, set), set & 3 | ((set & 8) != 0 ? 12 : 0));
        }
        for (int i = 0; i < 4; i++) {
            due("behind none", x.behind(i, 0), 0);
            due("ahead of all", x.ahead(i, 15), 15);
        }
        Checks.tell(x, 0, SIXTEEN + ";want b&!c");
        due("16 acts on", x.behind(0, 1), 2);
        due("16 acts back", x.ahead(0, 2), 15);
        due("16 acts back to none", x.ahead(0, 13), 0);
        Checks.tell(x, 0, "while 1 do p od");
        due("never an end", x.ahead(0, 0), 15);
        due("nothing behind", x.behind(0, 15), 0);
    }

    /** "HOW MANY: ROWS of n ACTS (0 .. 14) that are LET." */
    private static void howMany() {
        TestedLoops x = Checks.with("while b do p od", "stop", SIXTEEN, "while 1 do if b then p else q fi od");
        for (int n = 0; n <= 14; n++) {
            due("rows of a loop", x.many(0, n), 1L << (n + 1));
            due("none by stop", x.many(1, n), 0);
            due("none of 16", x.many(2, n), 0);
            due("none without an end", x.many(3, n), 0);
            Checks.tell(x, 2, "skip" + ";r".repeat(n));
            due("the most of " + n, x.many(2, n), 1L << (2 * n + 2));
            due("none of one more", x.many(2, n + 1), n == 14 ? BAD : 0);
            due("none of one less", x.many(2, n - 1), n == 0 ? BAD : 0);
        }
        due("the most there are", x.many(2, 14), 1073741824L);
    }

    /** "Whether a ROW of n ACTS (0 .. 12) is LET." */
    private static void letRows() {
        TestedLoops x = Checks.with("while b do q od", "stop", "p;p;p;p;p;p;p;p;p;p;p;p", "p;p;p;p;p;p;p;p;p;p;p;p;p");
        for (int n = 0; n <= 12; n++) {
            String loop = "3" + "q3".repeat(n);
            due("not out of the loop", x.lets(0, n, Checks.row(loop)), 0);
            due("out of the loop", x.lets(0, n, Checks.row(loop.substring(0, 2 * n) + "2")), 1);
            due("none by stop", x.lets(1, n, 0), 0);
            due("just 12", x.lets(2, n, 0), n == 12 ? 1 : 0);
            due("13 are not told", x.lets(3, n, 0), 0);
        }
        for (long row = 0; row < 4; row++) {
            due("no act, all atoms", x.lets(0, 0, row), row % 2 == 0 ? 1 : 0);
        }
        due("not below 4", x.lets(0, 0, 4), BAD);
        due("not below 48", x.lets(0, 1, 48), BAD);
        due("below 48", x.lets(0, 1, 47), 0);
        due("far past the last row", x.lets(2, 12, 1L << 62), BAD);
    }

    /** "WALK of a PROGRAM by a ROW, LET or not". */
    private static void walkedRows() {
        walked("stop", "0", 0, NONE);
        walked("skip", "3", 0, 0);
        walked("p", "3", 0, 1);
        walked("p", "3q3", 0, 1);
        walked("p", "3p3", 1, 0);
        walked("p", "3p3p3", 1, 0);
        walked("p; stop", "3p3", 1, NONE);
        walked("p; stop", "3p3p3q0", 1, NONE);
        walked(SIXTEEN, "0" + "p0".repeat(12), 12, 13);
        walked(SIXTEEN, "0" + "p3".repeat(11) + "q3", 11, 12);
        walked("p;p;p;p;p;p;p;p;p;p;p;p", "1" + "p2".repeat(12), 12, 0);
        walked("p;p;p;p;p;p;p;p;p;p;p", "1" + "p2".repeat(12), 11, 0);
        walked("p;p;p;p;p;p;p;p;p;p;p;p;want b", "1" + "p2".repeat(12), 12, NONE);
        walked("while b do r od; q", "0r0q1", 0, 2);
        walked("while b do r od; q", "1r1r0r0q1", 2, 2);
        // an act that comes again behind one that came not is not counted
        walked("while 1 do p od", "0p0q0p0p0", 1, 1);
        walked("if b then want c; p fi", "1", 0, NONE);
        walked("if b then want c; p fi", "3", 0, 1);
        walked("if b then want c; p fi", "2p0", 0, 0);
    }

    private static void walked(String text, String told, int came, int where) {
        TestedLoops x = Checks.with(text);
        int acts = told.length() / 2;
        due(text + " by " + told, x.walk(0, acts, Checks.row(told), 0), came);
        due(text + " by " + told + ", where", x.walk(0, acts, Checks.row(told), 1), where);
    }

    /** "SIZE of a PROGRAM: all its STATEMENTS' sizes, added (those within others too ..)". */
    private static void sizes() {
        String[] tests = {"0", "b & c", "b", "b | c", "1"};
        for (int atoms = 0; atoms <= 4; atoms++) {
            sized("if " + tests[atoms] + " then stop fi", 1 + atoms + 1, 101 + 1);
            sized("if " + tests[atoms] + " then stop else q fi", 1 + atoms + 1 + 3, 101 + 1 + 11);
            sized("while " + tests[atoms] + " do r od", 2 * (1 + atoms) + 4, 1101 + 11);
            sized("want " + tests[atoms], 1 + 4 - atoms, 10001);
        }
        sized("p", 2, 11);
        sized(SIXTEEN, 32, 176);
        sized(SIXTEEN.replace('p', 'r'), 64, 176);
        sized("while 1 do ".repeat(8) + "skip" + " od".repeat(8), 81, 8 * 1101 + 1);
        sized("if 1 then ".repeat(8) + "stop" + " fi".repeat(8), 41, 8 * 101 + 1);
        sized("skip;".repeat(59) + "stop", 60, 60);
        sized("want0;".repeat(49) + "want0", 250, 500050);
        // statements that are never come to count as well
        sized("stop; want 0; while 0 do r od", 1 + 5 + 2 + 4, 1 + 10001 + 1101 + 11);
    }

    private static void sized(String text, int size, long trace) {
        TestedLoops x = Checks.with("skip", "skip", "skip", text);
        due("size of " + text, x.size(3), size);
        due("trace of " + text, x.trace(), trace);
    }

    /** "THE TRACE, 0 at first, as often as size() asks that body". */
    private static void traces() {
        TestedLoops x = new TestedLoops();
        due("0 at first", x.trace(), 0);
        due("and again", x.trace(), 0);
        Checks.tell(x, 2, "want0;".repeat(49) + "want0");
        due("telling adds nothing", x.trace(), 0);
        for (int k = 1; k <= 200; k++) {
            due("size", x.size(2), 250);
            due("added each time", x.trace(), 500050L * k);
        }
        due("BAD adds nothing", x.size(4), BAD);
        due("as it was", x.trace(), 100010000L);
        Checks.tell(x, 2, "skip");
        x.clear();
        due("a program told anew takes nothing away", x.trace(), 100010000L);
        due("another object", new TestedLoops().trace(), 0);
    }

    /** "0 ACTS' PLACES of all PROGRAMS, 1 bytes of THE TEXT." */
    private static void counts() {
        TestedLoops x = Checks.with(SIXTEEN, SIXTEEN, SIXTEEN, SIXTEEN);
        due("64 places at most", x.count(0), 64);
        due("no bytes", x.count(1), 0);
        Checks.typeText(x, "p;".repeat(150));
        due("300 bytes at most", x.count(1), 300);
        due("a text has no places yet", x.count(0), 64);
        for (int i = 0; i < 4; i++) {
            Checks.tell(x, i, "stop");
            due("fewer places", x.count(0), 48 - 16 * i);
        }
        due("what 2", x.count(2), BAD);
        due("what -1", x.count(-1), BAD);
    }
}
