/** The promises of the document one by one: ordinary inputs, the edges that it names, wrong inputs. */
public final class PromiseTests {
    private static final int BAD = TestedLoops.BAD;
    private static final int FULL = TestedLoops.FULL;
    private static final int NONE = TestedLoops.NONE;
    private static final int[] NO_PROGRAMS = {-1, 4, Integer.MIN_VALUE, Integer.MAX_VALUE};
    private static final String SIXTEEN = "p;p;p;p;p;p;p;p;p;p;p;p;p;p;p;p";

    private static final Checks CHECKS = new Checks();

    private PromiseTests() {
    }

    public static void main(String[] args) {
        newObject();
        type();
        clear();
        program();
        faultsOfTokens();
        faultsOfGrammar();
        limitsOfDepthAndPlaces();
        next();
        nextAndLoops();
        testsOfAtoms();
        act();
        alike();
        apart();
        far();
        within();
        dead();
        fewest();
        ahead();
        behind();
        many();
        lets();
        walk();
        size();
        count();
        trace();
        CHECKS.finish("PromiseTests");
    }

    private static void due(String call, long got, long want) {
        CHECKS.due(call, got, want);
    }

    private static void fault(String text, int place) {
        TestedLoops x = Checks.with("p");
        due("fault of '" + text + "'", Checks.tell(x, 0, text), -10 - place);
        due("text stays: '" + text + "'", x.count(1), text.length());
        due("program stays: '" + text + "'", x.count(0), 1);
        due("act stays: '" + text + "'", x.next(0, 0, 0, 1), 1);
    }

    private static void stands(String text, int places) {
        due("'" + text + "'", Checks.tell(new TestedLoops(), 2, text), places);
    }

    private static void newObject() {
        TestedLoops x = new TestedLoops();
        due("new: text", x.count(1), 0);
        due("new: places", x.count(0), 0);
        due("new: trace", x.trace(), 0);
        for (int i = 0; i < 4; i++) {
            for (int atom = 0; atom < 4; atom++) {
                due("new: next", x.next(i, 0, atom, 0), 0);
            }
            due("new: size", x.size(i), 1);
            due("new: many 0", x.many(i, 0), 4);
            due("new: many 1", x.many(i, 1), 0);
            due("new: fewest", x.fewest(i), 1);
            due("new: alike", x.alike(0, i), 1);
        }
        TestedLoops other = Checks.with("p");
        due("objects are by themselves", new TestedLoops().count(0), 0);
        due("the other one's", other.count(0), 1);
    }

    private static void type() {
        TestedLoops x = new TestedLoops();
        due("type 0 bytes", x.type(112, 0), BAD);
        due("type 9 bytes", x.type(112, 9), BAD);
        due("type -1 bytes", x.type(112, -1), BAD);
        due("type min", x.type(112, Integer.MIN_VALUE), BAD);
        due("type max", x.type(112, Integer.MAX_VALUE), BAD);
        due("bad changes nothing", x.count(1), 0);
        due("only the lowest bytes", x.type(0x7171717171717170L, 1), 1);
        due("p alone", x.program(0), 1);
        due("act p", x.act(0, 1), 1);
        due("highest first", x.type(0x713b72L, 3), 3);
        due("q;r", x.program(0), 2);
        due("first is q", x.act(0, 1), 2);
        due("second is r", x.act(0, 2), 3);
        due("a long below 0", x.type(-1L, 8), 8);
        due("bytes 255 are no token", x.program(0), -10);
        x.clear();
        for (int k = 1; k <= 37; k++) {
            due("type to the limit", x.type(0x2020202020202020L, 8), 8 * k);
        }
        due("FULL by one", x.type(0x2020202020L, 5), FULL);
        due("BAD is ahead of FULL", x.type(0, 0), BAD);
        due("FULL changes nothing", x.count(1), 296);
        due("just the limit", x.type(0x202070L << 8 | 0x20, 4), 300);
        due("one more", x.type(32, 1), FULL);
        due("300 bytes", x.program(0), 1);
        due("empty again", x.type(112, 1), 1);
    }

    private static void clear() {
        TestedLoops x = new TestedLoops();
        due("clear of nothing", x.clear(), 0);
        Checks.typeText(x, "p;q;");
        due("clear", x.clear(), 4);
        due("clear again", x.clear(), 0);
        due("the text is empty", x.program(0), -10);
        Checks.typeText(x, "r");
        due("a new text", x.program(0), 1);
        due("nothing of the old one", x.act(0, 1), 3);
    }

    private static void program() {
        TestedLoops x = new TestedLoops();
        Checks.typeText(x, "p; q");
        for (int i : NO_PROGRAMS) {
            due("program bad", x.program(i), BAD);
        }
        due("BAD leaves the text", x.count(1), 4);
        due("program", x.program(3), 2);
        due("the text is empty then", x.count(1), 0);
        due("others stay", x.count(0), 2);
        Checks.typeText(x, "skip");
        due("told anew", x.program(3), 0);
        due("places are gone", x.count(0), 0);
        due("no such place any more", x.act(3, 1), BAD);
        due("an empty text", x.program(0), -10);
        Checks.typeText(x, "q q");
        due("a fault", x.program(0), -12);
        due("a fault again", x.program(0), -12);
        due("the text goes on", x.type(112, 1), 4);
        due("a word that is none: qp", x.program(0), -12);
    }

    private static void faultsOfTokens() {
        fault("", 0);
        fault("   ", 3);
        fault("P", 0);
        fault("  skipp", 2);
        fault("ski", 0);
        fault("sto", 0);
        fault("whil b do p od", 0);
        fault("p;whileb do p od", 2);
        fault("pq", 0);
        fault("pz", 0);
        fault("az", 0);
        fault("whilee b do p od", 0);
        fault(";".repeat(300), 0);
        fault("want " + "!".repeat(295), 13);
        fault("p;\tq", 2);
        fault("p\n", 1);
        fault("p@", 1);
        fault("p;@", 2);
        fault("want 2", 5);
        fault("want 12", 6);
        fault("want 10", 6);
        fault("want b1", 6);
        fault("want b " + (char) 226, 7);
        fault("p" + (char) 0, 1);
        fault("p;" + (char) 240, 2);
        fault("abcdefghijklmnopqrstuvwxyz", 0);
        fault("p q zz", 2);
        fault("p zz q", 2);
        stands(" p ", 1);
        stands("p;p", 2);
        stands("p ; p", 2);
        stands("want1;p", 1);
        stands("if(b)then p else q fi", 2);
        stands("if!b&c|0then p fi", 1);
        stands("while(1)do r od", 1);
        stands("   if   b   then   stop   fi   ", 0);
    }

    private static void faultsOfGrammar() {
        fault("p;", 2);
        fault("p; ", 3);
        fault(";p", 0);
        fault("p;;q", 2);
        fault("p q", 2);
        fault("b", 0);
        fault("0", 0);
        fault("(p)", 0);
        fault("!p", 0);
        fault("if", 2);
        fault("if ", 3);
        fault("if b", 4);
        fault("if b then", 9);
        fault("if b then fi", 10);
        fault("if b then p", 11);
        fault("if b then p;", 12);
        fault("if b then p; fi", 13);
        fault("if b then ; p p", 10);
        fault("if b then p else ; p p", 17);
        fault("if b ; p p", 5);
        fault("while b do ; p p", 11);
        fault("while b ; p p", 8);
        fault("if b then p else", 16);
        fault("if b then p else fi", 17);
        fault("if b then p else q", 18);
        fault("if b then p else q else r fi", 19);
        fault("if b then p od", 12);
        fault("if b do p od", 5);
        fault("if p then q fi", 3);
        fault("if then q fi", 3);
        fault("while b then p od", 8);
        fault("while b do od", 11);
        fault("while b do p fi", 13);
        fault("while b do p else q od", 13);
        fault("while do p od", 6);
        fault("want", 4);
        fault("want ; p", 5);
        fault("want b c", 7);
        fault("want b then", 7);
        fault("want b)", 6);
        fault("want (b", 7);
        fault("want (b;", 7);
        fault("want ()", 6);
        fault("want b &", 8);
        fault("want b & | c", 9);
        fault("want | b", 5);
        fault("want !", 6);
        fault("want !&b", 6);
        fault("want b !c", 7);
        fault("want b (c)", 7);
        fault("fi", 0);
        fault("p fi", 2);
        fault("p od", 2);
        fault("p else q", 2);
        fault("if b then p fi fi", 15);
        fault("skip skip", 5);
        fault("stop p", 5);
        stands("if b then p fi; q", 2);
        stands("want b | c & !(0 | 1); p", 1);
        stands("if b then if c then p fi else q fi", 2);
        stands("while b do while c do p od; q od", 2);
    }

    private static void limitsOfDepthAndPlaces() {
        fault(SIXTEEN + ";p", 32);
        fault("if b then p;p;p;p;p;p;p;p else p;p;p;p;p;p;p;p;q fi",
            "if b then p;p;p;p;p;p;p;p else p;p;p;p;p;p;p;p;".length());
        stands(SIXTEEN, 16);
        stands(SIXTEEN + ";skip;stop", 16);
        stands("want !!!!!!!!b", 0);
        fault("want !!!!!!!!!b", 13);
        stands("want ((((((((b))))))))", 0);
        fault("want (((((((((b)))))))))", 13);
        stands("want !(!(!(!(b))))", 0);
        fault("want !(!(!(!(!b))))", 13);
        fault("want !(!(!(!((b)))))", 13);
        stands("want !!!!!!!!b & !!!!!!!!c | ((((((((0))))))))", 0);
        String ifs = "if b then ".repeat(8);
        stands(ifs + "p" + " fi".repeat(8), 1);
        fault(ifs + "if b then p" + " fi".repeat(9), 80);
        fault(ifs + "while b do p od" + " fi".repeat(8), 80);
        fault(ifs + "want !b" + " fi".repeat(8), 85);
        fault(ifs + "want (b)" + " fi".repeat(8), 85);
        stands(ifs + "want b" + " fi".repeat(8), 0);
        String whiles = "while b do ".repeat(7);
        stands(whiles + "while c do p od" + " od".repeat(7), 1);
        stands(whiles + "want !b; if c then p fi; want (b)" + " od".repeat(7), 1);
        fault(whiles + "if !c then p fi" + " od".repeat(7), 80);
        fault(whiles + "while (c) do p od" + " od".repeat(7), 83);
        stands(whiles + "if c then p else q fi; if b then r fi" + " od".repeat(7), 3);
        fault("if !!!!!!!!b then p fi", 10);
        stands("if !!!!!!!b then p fi", 1);
    }

    private static void next() {
        TestedLoops x = Checks.with("if b then p else if c then q; r else stop fi fi; want c");
        due("first by 1", x.next(0, 0, 1, 0), 1);
        due("first by 3", x.next(0, 0, 3, 0), 1);
        due("first by 2", x.next(0, 0, 2, 0), 2);
        due("first by 0", x.next(0, 0, 0, 0), NONE);
        due("act by 1", x.next(0, 0, 1, 1), 1);
        due("act by 2", x.next(0, 0, 2, 1), 2);
        due("no act, stuck", x.next(0, 0, 0, 1), 0);
        due("behind q", x.next(0, 2, 0, 0), 3);
        due("behind q, act", x.next(0, 2, 0, 1), 3);
        due("behind p, want is not so", x.next(0, 1, 1, 0), NONE);
        due("behind p, want is so", x.next(0, 1, 2, 0), 0);
        due("the end has no act", x.next(0, 1, 2, 1), 0);
        due("behind r", x.next(0, 3, 3, 0), 0);
        due("place 4", x.next(0, 4, 0, 0), BAD);
        due("place -1", x.next(0, -1, 0, 0), BAD);
        due("place max", x.next(0, Integer.MAX_VALUE, 0, 0), BAD);
        due("atom 4", x.next(0, 0, 4, 0), BAD);
        due("atom -1", x.next(0, 0, -1, 0), BAD);
        due("what 2", x.next(0, 0, 0, 2), BAD);
        due("what -1", x.next(0, 0, 0, -1), BAD);
        for (int i : NO_PROGRAMS) {
            due("next bad", x.next(i, 0, 0, 0), BAD);
        }
        due("another program's place", x.next(1, 1, 0, 0), BAD);
    }

    private static void nextAndLoops() {
        TestedLoops x = Checks.with(
            "while b do if c then p else skip fi od; q",
            "while 1 do while b do p od od",
            "while b do while c do p; want b od; if !c then q fi od",
            "while 0 do p; q od; stop; r");
        due("goes to p", x.next(0, 0, 3, 0), 1);
        due("round without an act", x.next(0, 0, 1, 0), NONE);
        due("out of the loop", x.next(0, 0, 0, 0), 2);
        due("behind p round again", x.next(0, 1, 1, 0), NONE);
        due("behind p again p", x.next(0, 1, 3, 0), 1);
        due("inner loop", x.next(1, 0, 1, 0), 1);
        due("outer loop alone", x.next(1, 0, 0, 0), NONE);
        due("behind it inner again", x.next(1, 1, 3, 0), 1);
        due("behind it round", x.next(1, 1, 2, 0), NONE);
        due("want in a loop", x.next(2, 1, 2, 0), NONE);
        due("want in a loop is so", x.next(2, 1, 3, 0), 1);
        due("past the inner loop", x.next(2, 1, 1, 0), 2);
        due("ends", x.next(2, 2, 2, 0), 0);
        due("a loop never entered", x.next(3, 0, 3, 0), NONE);
        due("from within it", x.next(3, 1, 0, 0), 2);
        due("from its last act", x.next(3, 2, 0, 0), NONE);
        due("behind stop", x.next(3, 3, 0, 0), 0);
    }

    private static void testsOfAtoms() {
        wantLets("b", 10);
        wantLets("c", 12);
        wantLets("0", 0);
        wantLets("1", 15);
        wantLets("!b", 5);
        wantLets("!!c", 12);
        wantLets("b & c", 8);
        wantLets("b | c", 14);
        wantLets("b | c & !b", 14);
        wantLets("(b | c) & !b", 4);
        wantLets("!b & c", 4);
        wantLets("!(b & c)", 7);
        wantLets("b & c | !b & !c", 9);
        wantLets("b & !c | !b & c | 0", 6);
        wantLets("1 & 0 | c", 12);
        wantLets("c | 1 & 0", 12);
        wantLets("!(b | !c) & (1)", 4);
        wantLets("!1 | !0 & b & b & c", 8);
    }

    private static void wantLets(String test, int atoms) {
        TestedLoops x = Checks.with("want " + test, "if " + test + " then skip else stop fi",
            "while !(" + test + ") do skip od");
        for (int i = 0; i < 3; i++) {
            due("program " + i + " by " + test, x.behind(i, 15), atoms);
        }
    }

    private static void act() {
        TestedLoops x = Checks.with("r; while b do q od; p");
        due("act 1", x.act(0, 1), 3);
        due("act 2", x.act(0, 2), 2);
        due("act 3", x.act(0, 3), 1);
        due("act 0", x.act(0, 0), BAD);
        due("act 4", x.act(0, 4), BAD);
        due("act -1", x.act(0, -1), BAD);
        due("none there", x.act(1, 1), BAD);
        for (int i : NO_PROGRAMS) {
            due("act bad", x.act(i, 1), BAD);
        }
    }

    private static void alike() {
        TestedLoops x = Checks.with("if b then p else q fi", "if !b then q else p fi",
            "if b then p else p fi", "p");
        due("turned round", x.alike(0, 1), 1);
        due("with itself", x.alike(0, 0), 1);
        due("same acts", x.alike(2, 3), 1);
        due("other acts", x.alike(0, 3), 0);
        due("other acts, back", x.alike(3, 0), 0);
        for (int i : NO_PROGRAMS) {
            due("alike bad first", x.alike(i, 0), BAD);
            due("alike bad second", x.alike(0, i), BAD);
        }
        TestedLoops z = Checks.with("want b; p", "p");
        due("within, not alike", z.alike(0, 1), 0);
        due("round it, not alike", z.alike(1, 0), 0);
        TestedLoops y = Checks.with("p; p; while 1 do skip od", "stop", "q; want 0", "p; stop; q");
        for (int i = 0; i < 4; i++) {
            due("none let", y.alike(0, i), 1);
        }
    }

    private static void apart() {
        TestedLoops x = Checks.with("want b; p; q", "want b; p; r", "if c then q else p fi", "q");
        due("q ahead of r", x.apart(0, 1), Checks.row("1p0q0"));
        due("the other way", x.apart(1, 0), Checks.row("1p0q0"));
        due("fewer acts first", x.apart(0, 3), Checks.row("0q0"));
        due("first atom first", x.apart(2, 3), Checks.row("0p0"));
        due("alike", x.apart(2, 2), -9);
        for (int i : NO_PROGRAMS) {
            due("apart bad first", x.apart(i, 0), -1);
            due("apart bad second", x.apart(0, i), -1);
        }
        TestedLoops y = Checks.with("q; want b & c", "q; want c", "want c; r; want b; p; want b & !c");
        due("the last atom", y.apart(0, 1), Checks.row("0q2"));
        due("with skip", y.apart(0, 3), 0);
        Checks.tell(y, 3, "stop");
        due("the only rows", y.apart(2, 3), Checks.row("2r1p1"));
        Checks.tell(y, 3, "want c; r; if c then p else p; want b & !c fi");
        due("what was so between", y.apart(2, 3), Checks.row("2r0p1"));
        apartAtTheLimit();
    }

    private static void apartAtTheLimit() {
        TestedLoops x = Checks.with("r;r;r;r;r;r;r;r;r;r;r;r;r;r;r;r; want b & c", "stop",
            "while c do r;r;r od",
            nestedThrees());
        due("16 acts are told", x.apart(0, 1), Checks.row("0" + "r0".repeat(15) + "r3"));
        due("16 acts", x.far(0, 1), 16);
        due("18 acts are not", x.apart(2, 3), -10);
        due("18 acts, the other way", x.apart(3, 2), -10);
        due("but far tells", x.far(2, 3), 18);
        due("within", x.within(3, 2), 1);
        due("not within", x.within(2, 3), 0);
        Checks.tell(x, 0, "want b & c; while 1 do if b then r;r else r fi; want b & c od");
        Checks.tell(x, 1, "want b & c; while 1 do want b & c; r; r od");
        due("none is let", x.apart(0, 1), -9);
        Checks.tell(x, 0, "while 1 do p; q; r; if b then p else stop fi; want c; q; q; q; q; q; q; q; q; q; q; q od");
        Checks.tell(x, 1, "want 0");
        due("no end is come to", x.apart(0, 1), -9);
        Checks.tell(x, 0, "p; while !b do p; p; p; p; p; p; p; p; p; p; p; p; p; p; p od");
        Checks.tell(x, 1, "p; if !b then p; p; p; p; p; p; p; p; p; p; p; p; p; p; p; want b fi");
        due("31 acts", x.far(0, 1), 31);
        due("31 acts are not told", x.apart(0, 1), -10);
    }

    /** As "while c do r;r;r od", but at most five times round. */
    private static String nestedThrees() {
        String inner = "skip";
        for (int k = 0; k < 5; k++) {
            inner = "if c then r;r;r;" + inner + " fi";
        }
        return inner.replace("skip", "want !c");
    }

    private static void far() {
        TestedLoops x = Checks.with("p; q", "p; r", "p; q; while b do p od", "skip");
        due("far 2", x.far(0, 1), 2);
        due("far, other way", x.far(1, 0), 2);
        due("far 0", x.far(0, 3), 0);
        due("far: an atom at the end", x.far(0, 2), 2);
        due("far: alike", x.far(2, 2), NONE);
        for (int i : NO_PROGRAMS) {
            due("far bad first", x.far(i, 0), BAD);
            due("far bad second", x.far(0, i), BAD);
        }
    }

    private static void within() {
        TestedLoops x = Checks.with("while b do p od", "while b do p; want !b od", "stop", "while b do p; p od");
        due("fewer rounds", x.within(1, 0), 1);
        due("more rounds", x.within(0, 1), 0);
        due("none is within all", x.within(2, 1), 1);
        due("not within none", x.within(1, 2), 0);
        due("with itself", x.within(0, 0), 1);
        due("twos are not within", x.within(3, 0), 0);
        due("nor round it", x.within(0, 3), 0);
        for (int i : NO_PROGRAMS) {
            due("within bad first", x.within(i, 0), BAD);
            due("within bad second", x.within(0, i), BAD);
        }
    }

    private static void dead() {
        TestedLoops x = Checks.with("if b then p; stop else q fi; r", "while 0 do p od; q; want c; r",
            SIXTEEN + "; stop", "if b then p; while 1 do q od else r fi");
        due("ahead of stop", x.dead(0), 2);
        due("never come to", x.dead(1), 2);
        due("all 16", x.dead(2), 0x1fffe);
        due("acts that never end", x.dead(3), 6);
        due("none", new TestedLoops().dead(0), 0);
        for (int i : NO_PROGRAMS) {
            due("dead bad", x.dead(i), BAD);
        }
        TestedLoops y = Checks.with("stop; p", "want b; p; while b do q; want b od", "want b; if !b then p fi; q");
        due("behind stop", y.dead(0), 2);
        due("a loop that is left too", y.dead(1), 4);
        due("by tests that can't both be", y.dead(2), 2);
        for (int atom = 0; atom < 4; atom++) {
            Checks.tell(y, 3, "want " + (atom % 2 == 1 ? "b" : "!b") + " & " + (atom > 1 ? "c" : "!c") + "; r");
            due("come to by atom " + atom + " alone", y.dead(3), 0);
        }
        Checks.tell(y, 3, "while 1 do if b then if c then p; stop fi; q else want c; r; want !b; skip fi od");
        due("a loop that is never left", y.dead(3), 14);
    }

    private static void fewest() {
        TestedLoops x = Checks.with("p; p; p", "while b do p od; while b do p od", "if b then p; q else q; q fi", "stop");
        due("one after another", x.fewest(0), 4);
        due("all the same", x.fewest(1), 1);
        due("behind p as behind q", x.fewest(2), 3);
        due("none", x.fewest(3), 0);
        for (int i : NO_PROGRAMS) {
            due("fewest bad", x.fewest(i), BAD);
        }
        TestedLoops y = Checks.with("if b then p; stop else q fi", SIXTEEN,
            "while b do p; if c then q; while 1 do r od fi od", "while 1 do p; want !b; q; want b; if c then want 0 fi od");
        due("dead ones are left out", y.fewest(0), 2);
        due("17 at most", y.fewest(1), 17);
        due("to a dead one is as stuck", y.fewest(2), 2);
        due("never ends", y.fewest(3), 0);
        Checks.tell(y, 0, "while 0 do p; q; r od; q");
        due("not come to are left out", y.fewest(0), 2);
        Checks.tell(y, 0, "if b then p; want b else q; want b fi; if b then r else r fi");
        due("same rows from p and q on", y.fewest(0), 3);
        Checks.tell(y, 0, "if b then p; if c then stop fi else q; if c then r; stop fi fi");
        due("stuck and never ending are the same", y.fewest(0), 2);
        Checks.tell(y, 0, "if b then p; want b | c else q fi");
        due("told apart by atom 0", y.fewest(0), 3);
        Checks.tell(y, 0, "if b then p; want !b | !c else q fi");
        due("told apart by atom 3", y.fewest(0), 3);
        Checks.tell(y, 0, "if b then p; q else q; r fi");
        due("told apart by acts", y.fewest(0), 4);
        Checks.tell(y, 0, "while b do if c then r;q else " + "r;".repeat(13) + "p;want c fi od");
        due("told apart by acts, with all places", y.fewest(0), 16);
    }

    private static void ahead() {
        TestedLoops x = Checks.with("if b then p; want c else skip fi", "while b do skip od", "stop", "want c; q; want !b");
        due("c behind p, else as it was", x.ahead(0, 12), 14);
        due("only 3", x.ahead(0, 8), 0);
        due("0 stays", x.ahead(0, 13), 15);
        due("stuck ones too", x.ahead(1, 1), 11);
        due("none let", x.ahead(2, 0), 15);
        due("not c: none let", x.ahead(3, 0), 3);
        due("all", x.ahead(3, 5), 15);
        due("not all", x.ahead(3, 4), 3);
        due("every atom", x.ahead(3, 15), 15);
        due("set 16", x.ahead(0, 16), BAD);
        due("set -1", x.ahead(0, -1), BAD);
        for (int i : NO_PROGRAMS) {
            due("ahead bad", x.ahead(i, 0), BAD);
        }
    }

    private static void behind() {
        TestedLoops x = Checks.with("if b then p; want c else skip fi", "while b do skip od", "stop", "while b do q od; want c");
        due("by b", x.behind(0, 10), 12);
        due("by not b", x.behind(0, 5), 5);
        due("by any", x.behind(0, 15), 13);
        due("by none", x.behind(0, 0), 0);
        due("stuck", x.behind(1, 10), 0);
        due("stays", x.behind(1, 15), 5);
        due("none let", x.behind(2, 15), 0);
        due("round a loop", x.behind(3, 2), 4);
        due("no act", x.behind(3, 1), 0);
        due("set 16", x.behind(0, 16), BAD);
        due("set -1", x.behind(0, -1), BAD);
        for (int i : NO_PROGRAMS) {
            due("behind bad", x.behind(i, 0), BAD);
        }
    }

    private static void many() {
        TestedLoops x = Checks.with("while b do p od", "p; q", "while 1 do p od", "if c then while b | c do q od else r fi");
        due("0 acts", x.many(0, 0), 2);
        due("1 act", x.many(0, 1), 4);
        due("14 acts", x.many(0, 14), 32768);
        due("just two", x.many(1, 2), 64);
        due("not one", x.many(1, 1), 0);
        due("not three", x.many(1, 3), 0);
        due("none", x.many(2, 14), 0);
        due("1 by 8 and 2", x.many(3, 1), 10);
        due("2 acts", x.many(3, 2), 6);
        due("15", x.many(0, 15), BAD);
        due("-1", x.many(0, -1), BAD);
        for (int i : NO_PROGRAMS) {
            due("many bad", x.many(i, 0), BAD);
        }
        TestedLoops y = Checks.with("p;p;p;p;p;p;p;p;p;p;p;p;p;p");
        due("the most there are", y.many(0, 14), 1L << 30);
    }

    private static void lets() {
        TestedLoops x = Checks.with("while b do p od; q", "while 1 do r; if c then stop fi od", "skip",
            "while b & c do r od");
        due("let", x.lets(0, 2, Checks.row("1p0q3")), 1);
        due("another act", x.lets(0, 2, Checks.row("1q0q3")), 0);
        due("another atom", x.lets(0, 2, Checks.row("0p0q3")), 0);
        due("not to the end", x.lets(0, 1, Checks.row("1p0")), 0);
        due("past the end", x.lets(0, 2, Checks.row("0q0q0")), 0);
        due("never ends", x.lets(1, 1, Checks.row("0r0")), 0);
        due("stuck at the end", x.lets(1, 1, Checks.row("0r2")), 0);
        due("no acts", x.lets(2, 0, 3), 1);
        due("12 acts", x.lets(3, 12, Checks.row("3" + "r3".repeat(11) + "r0")), 1);
        due("12 acts, not to the end", x.lets(3, 12, Checks.row("3" + "r3".repeat(12))), 0);
        rowsThatAreNone(x);
    }

    private static void rowsThatAreNone(TestedLoops x) {
        long past = 4;
        for (int n = 0; n <= 12; n++) {
            due("the last row", x.lets(2, n, past - 1), n == 0 ? 1 : 0);
            due("no such row", x.lets(2, n, past), BAD);
            due("no such row to walk", x.walk(2, n, past, 0), BAD);
            due("the last to walk", x.walk(2, n, past - 1, 1), 0);
            past *= 12;
        }
        for (long row : new long[] {-1, Long.MIN_VALUE, Long.MAX_VALUE}) {
            due("lets of " + row, x.lets(0, 12, row), BAD);
            due("walk of " + row, x.walk(0, 12, row, 0), BAD);
        }
        for (int n : new int[] {-1, 13, Integer.MIN_VALUE, Integer.MAX_VALUE}) {
            due("lets n " + n, x.lets(0, n, 0), BAD);
            due("walk n " + n, x.walk(0, n, 0, 0), BAD);
        }
        for (int i : NO_PROGRAMS) {
            due("lets bad", x.lets(i, 0, 0), BAD);
            due("walk bad", x.walk(i, 0, 0, 0), BAD);
        }
        due("walk what 2", x.walk(0, 0, 0, 2), BAD);
        due("walk what -1", x.walk(0, 0, 0, -1), BAD);
    }

    private static void walk() {
        walked("while b do p od; q", "1p0q3", 2, 0);
        walked("while b do p od; q", "1p1p1", 2, 1);
        walked("while b do p od; q", "1p1q1", 1, 1);
        walked("while b do p od; q", "1p0p1", 1, 2);
        walked("while b do p od; q", "0q0q0p0", 1, 0);
        walked("while b do p od; q", "1", 0, 1);
        walked("while b do p od; q", "2r0", 0, 2);
        walked("want b; p; want c; q", "0p0", 0, NONE);
        walked("want b; p; want c; q", "1p1q0", 1, NONE);
        walked("want b; p; want c; q", "1p2q0", 2, 0);
        walked("stop", "3", 0, NONE);
        walked("skip", "3p3", 0, 0);
        walked("if b then p; q else p; r fi", "0p0q0", 1, 4);
        walked("if b then p; q else p; r fi", "1p0q0", 2, 0);
        walked("while 1 do r od", "0" + "r1".repeat(12), 12, 1);
    }

    private static void walked(String text, String told, int came, int where) {
        TestedLoops x = Checks.with(text);
        int acts = told.length() / 2;
        due(text + " walk " + told + " acts", x.walk(0, acts, Checks.row(told), 0), came);
        due(text + " walk " + told + " where", x.walk(0, acts, Checks.row(told), 1), where);
        due(text + " lets " + told, x.lets(0, acts, Checks.row(told)), came == acts && where == 0 ? 1 : 0);
    }

    private static void size() {
        sized("skip", 1, 1);
        sized("stop", 1, 1);
        sized("p", 2, 11);
        sized("q", 3, 11);
        sized("r", 4, 11);
        sized("if b then skip fi", 4, 102);
        sized("if 0 then skip fi", 2, 102);
        sized("if 1 then skip else stop fi", 7, 103);
        sized("while b do skip od", 7, 1102);
        sized("while 0 do skip od", 3, 1102);
        sized("while 1 do skip od", 11, 1102);
        sized("want b", 3, 10001);
        sized("want 0", 5, 10001);
        sized("want 1", 1, 10001);
        sized("skip;skip;stop", 3, 3);
        sized("if b & c then while b | c do r; want c od else p fi; q", 2 + 8 + 4 + 3 + 2 + 3, 101 + 1101 + 11 + 10001 + 11 + 11);
        TestedLoops x = new TestedLoops();
        for (int i : NO_PROGRAMS) {
            due("size bad", x.size(i), BAD);
        }
        due("bad leaves the trace", x.trace(), 0);
    }

    private static void sized(String text, int size, long trace) {
        TestedLoops x = Checks.with(text);
        due("trace ahead of size: " + text, x.trace(), 0);
        due("size: " + text, x.size(0), size);
        due("trace: " + text, x.trace(), trace);
        due("size again: " + text, x.size(0), size);
        due("trace again: " + text, x.trace(), 2 * trace);
    }

    private static void count() {
        TestedLoops x = Checks.with("p; q", "r", "skip", "p; p; p");
        due("places", x.count(0), 6);
        due("bytes", x.count(1), 0);
        Checks.typeText(x, "if b the");
        due("bytes typed", x.count(1), 8);
        due("what 2", x.count(2), BAD);
        due("what -1", x.count(-1), BAD);
        due("what max", x.count(Integer.MAX_VALUE), BAD);
        Checks.tell(x, 0, "stop");
        due("places then", x.count(0), 4);
    }

    private static void trace() {
        TestedLoops x = Checks.with("p", "while b do p od", "want c");
        x.size(0);
        due("added", x.trace(), 11);
        x.size(1);
        due("added up", x.trace(), 11 + 1101 + 11);
        x.size(2);
        due("added up again", x.trace(), 11 + 1101 + 11 + 10001);
        Checks.tell(x, 0, "skip");
        x.clear();
        x.alike(0, 1);
        x.fewest(1);
        due("only size adds", x.trace(), 11 + 1101 + 11 + 10001);
    }
}
