import java.util.List;

/**
 * FAULT and TOKENS at their edges: each token at each spot of the grammar, each byte, words that are
 * nearly one, what is open in one another.
 */
public final class TokenTests {
    private static final List<String> WORDS = List.of("skip", "stop", "if", "then", "else", "fi", "while", "do", "od",
        "want", "b", "c", "p", "q", "r");
    private static final List<String> SIGNS = List.of("0", "1", ";", "|", "&", "!", "(", ")");
    private static final String STATEMENT = " skip stop if while want p q r ";
    private static final String ONE = " b c 0 1 ! ( ";

    private static final Checks CHECKS = new Checks();

    private TokenTests() {
    }

    public static void main(String[] args) {
        eachTokenAtEachSpot();
        eachByte();
        nearlyWords();
        joinedTokens();
        blanks();
        firstFaultOfSeveral();
        endsTooEarly();
        openInOneAnother();
        CHECKS.finish("TokenTests");
    }

    /** The answer of program(), and what stays (a fault) or is empty then (none). */
    private static void answers(String text, int due) {
        TestedLoops x = Checks.with("skip", "q; r");
        CHECKS.due("program of '" + text + "'", Checks.tell(x, 1, text), due);
        CHECKS.due("bytes behind '" + text + "'", x.count(1), due < 0 ? text.length() : 0);
        CHECKS.due("places behind '" + text + "'", x.count(0), due < 0 ? 2 : due);
    }

    private static void fault(String text, int place) {
        answers(text, -10 - place);
    }

    /** "FAULT: the place of the first byte of the first TOKEN that can't stand there". */
    private static void eachTokenAtEachSpot() {
        spot("", STATEMENT);
        spot("p;", STATEMENT);
        spot("if b then ", STATEMENT);
        spot("if b then p;", STATEMENT);
        spot("if b then p else ", STATEMENT);
        spot("if b then p else q;", STATEMENT);
        spot("while b do ", STATEMENT);
        spot("while b do p;", STATEMENT);
        for (String ahead : List.of("p ", "skip ", "stop ", "if b then p fi ", "while b do p od ")) {
            spot(ahead, " ; ");
            spot("if c then " + ahead, " ; else fi ");
            spot("if c then p else " + ahead, " ; fi ");
            spot("while c do " + ahead, " ; od ");
        }
        for (String test : List.of("b ", "0 ", "(c) ", "!b ", "b | c ", "b & 1 ", "!(b | c) ")) {
            spot("if " + test, " | & then ");
            spot("while " + test, " | & do ");
            spot("want " + test, " | & ; ");
            spot("if c then want " + test, " | & ; else fi ");
            spot("while c do want " + test, " | & ; od ");
            spot("want (" + test, " | & ) ");
            spot("want (" + test + "| (" + test, " | & ) ");
        }
        for (String ahead : List.of("if ", "while ", "want ", "want !", "want (", "want b|", "want b&", "want (b|",
            "want !!")) {
            spot(ahead, ONE);
        }
    }

    /** A token that may stand is followed by a byte that begins none, so that the fault is there. */
    private static void spot(String ahead, String mayStand) {
        for (String token : WORDS) {
            standsOrNot(ahead, token, mayStand);
        }
        for (String token : SIGNS) {
            standsOrNot(ahead, token, mayStand);
        }
        for (String none : List.of("z", "skips", "?", "2", "\t", "-", "P")) {
            fault(ahead + none, ahead.length());
        }
    }

    private static void standsOrNot(String ahead, String token, String mayStand) {
        boolean stands = mayStand.contains(" " + token + " ");
        fault(ahead + token + " ?", ahead.length() + (stands ? token.length() + 1 : 0));
    }

    /** "of a byte that begins none": every byte, at the beginning and behind a token. */
    private static void eachByte() {
        String known = " 01;|&!()";
        for (int sign = 0; sign < 256; sign++) {
            boolean letter = sign >= 'a' && sign <= 'z';
            if (letter || known.indexOf(sign) >= 0) {
                continue;
            }
            fault((char) sign + "p", 0);
            fault("p" + (char) sign, 1);
            fault("p;" + (char) sign + "q", 2);
            fault("skip" + (char) sign + "skip", 4);
            fault("want" + (char) sign + "b", 4);
            fault("want !" + (char) sign, 6);
            fault("want b" + (char) sign + "|c", 6);
        }
        for (char letter = 'a'; letter <= 'z'; letter++) {
            boolean act = letter >= 'p' && letter <= 'r';
            answers("" + letter, act ? 1 : -10);
            boolean test = letter == 'b' || letter == 'c';
            answers("want " + letter, test ? 0 : -15);
        }
        for (char figure = '0'; figure <= '9'; figure++) {
            answers("want " + figure, figure <= '1' ? 0 : -15);
        }
    }

    /** "a word that is none of these, that TOKEN's". */
    private static void nearlyWords() {
        for (String word : WORDS) {
            for (char more : "abpsz".toCharArray()) {
                notAWord(word + more);
                notAWord(more + word);
            }
            for (int k = 1; k < word.length(); k++) {
                notAWord(word.substring(0, k));
                notAWord(word.substring(k));
                notAWord(word.substring(0, k) + "x" + word.substring(k + 1));
            }
            for (String other : WORDS) {
                notAWord(word + other);
            }
        }
    }

    /** The token is none wherever a token stands: first, behind a statement, where a test is due. */
    private static void notAWord(String word) {
        if (WORDS.contains(word)) {
            return;
        }
        fault(word, 0);
        fault("  " + word + " ;p", 2);
        fault("p;" + word, 2);
        fault("p " + word, 2);
        fault("want " + word, 5);
        fault("if b " + word + " p fi", 5);
    }

    /** "a figure is a TOKEN by itself"; signs need no blanks round them. */
    private static void joinedTokens() {
        answers("want0", 0);
        answers("want1|0&1", 0);
        answers("want 1|b&!(0)", 0);
        answers("if(b)then p fi;while!c do q od", 2);
        answers("if 1then p else q fi", 2);
        answers("while 0do r od", 1);
        answers("want(b);want!c;p", 1);
        answers("p;q;r", 3);
        fault("want 00", 6);
        fault("want 11", 6);
        fault("want 01", 6);
        fault("want 0b", 6);
        fault("want b0", 6);
        fault("want 1 1", 7);
        fault("p1", 1);
        fault("1p", 0);
        fault("skip0", 4);
        fault("if1 then p fi fi", 14);
        fault("wantb", 0);
        fault("ifb then p fi", 0);
        fault("if b thenp fi", 5);
        fault("if b then pfi", 10);
        fault("while b dop od", 8);
        fault("p;qr", 2);
    }

    /** "blanks (32) between TOKENS": any number of them, and no other byte. */
    private static void blanks() {
        for (int k = 0; k <= 20; k++) {
            String gap = " ".repeat(k);
            answers(gap + "p" + gap + ";" + gap + "q" + gap, 2);
            answers("want" + gap + "(" + gap + "b" + gap + "&" + gap + "!" + gap + "c" + gap + ")", 0);
            fault(gap, k);
            fault("p;" + gap, 2 + k);
            fault(gap + "od" + gap, k);
        }
        answers(" ".repeat(299) + "p", 1);
        answers("p" + " ".repeat(299), 1);
        for (char other : new char[] {0, 9, 10, 11, 12, 13, 31, 127, 160}) {
            fault("p" + other + ";q", 1);
            fault(other + "p", 0);
            fault("if b" + other + "then p fi", 4);
        }
    }

    private static void firstFaultOfSeveral() {
        fault("p q ? zz", 2);
        fault("p;? q q", 2);
        fault("zz ?", 0);
        fault("? zz", 0);
        fault("p;q;r;p;q;r;p;q;r;p;q;r;p;q;r;p;q;zz", 32);
        fault("p;q;r;p;q;r;p;q;r;p;q;r;p;q;r;p;zz;q", 32);
        fault("want !!!!!!!!!zz", 13);
        fault("want !!!!!!!!zz!", 13);
        fault("if b then p od; zz", 12);
    }

    /** "the text's length, if it ends too early". */
    private static void endsTooEarly() {
        String[] texts = {"", "p;", "if", "if b", "if b |", "if b then", "if b then p", "if b then p;", "if b then p else",
            "if b then p else q", "while", "while b", "while b do", "while b do p", "while b do p;", "want", "want !",
            "want (", "want (b", "want b |", "want b &", "want (b|(c)", "want !(", "p;want"};
        for (String text : texts) {
            fault(text, text.length());
            fault(text + " ", text.length() + 1);
            fault(text + "       ", text.length() + 7);
            String full = text + " ".repeat(300 - text.length());
            fault(full, 300);
        }
    }

    /** "(8 of if, while, ! and ( open in one another at most.)": each way to have eight, and a ninth. */
    private static void openInOneAnother() {
        for (int mask = 0; mask < 512; mask++) {
            openStatements(mask, 9);
            openStatements(mask, 8);
        }
        for (int outer = 0; outer <= 8; outer++) {
            for (int mask = 0; mask < 1 << (9 - outer); mask++) {
                openTests(outer, mask, 9 - outer);
                openTests(outer, mask, 8 - outer);
            }
        }
        manyOneBehindTheOther();
    }

    private static void openStatements(int mask, int n) {
        StringBuilder ahead = new StringBuilder();
        StringBuilder behind = new StringBuilder();
        int ninth = 0;
        for (int k = 0; k < n; k++) {
            boolean choice = (mask >> k & 1) == 1;
            ninth = ahead.length();
            ahead.append(choice ? "if b then " : "while c do ");
            behind.insert(0, choice ? " fi" : " od");
        }
        String text = ahead + "p" + behind;
        answers(text, n == 9 ? -10 - ninth : 1);
    }

    private static void openTests(int outer, int mask, int n) {
        StringBuilder ahead = new StringBuilder("if b then ".repeat(outer)).append("want ");
        StringBuilder behind = new StringBuilder();
        for (int k = 0; k < n; k++) {
            boolean not = (mask >> k & 1) == 1;
            ahead.append(not ? "!" : "(");
            behind.insert(0, not ? "" : ")");
        }
        String text = ahead + "b" + behind + " fi".repeat(outer);
        answers(text, outer + n == 9 ? -10 - (ahead.length() - 1) : 0);
    }

    /** What is closed again is not open: no number of them is too many one behind the other. */
    private static void manyOneBehindTheOther() {
        answers("if b then skip fi;".repeat(15) + "p", 1);
        answers("while b do skip od;".repeat(14) + "p", 1);
        answers("want b" + "&!b".repeat(90), 0);
        answers("want b" + "|(b)".repeat(70), 0);
        answers("want !b;".repeat(30) + "q", 1);
        String deep = "((((((((b))))))))";
        answers("want " + deep + "|" + deep + "&!!!!!!!!" + "c", 0);
        String seven = "if b then ".repeat(7);
        answers(seven + "if c then p fi; while c do q od; want !b & (c)" + " fi".repeat(7), 2);
        answers(seven + "skip else if c then p fi" + " fi".repeat(7), 1);
        fault(seven + "skip else if c then if b then p fi fi" + " fi".repeat(7), 90);
        // a choice or loop is open while its own test is read
        answers("if !!!!!!!b then p fi", 1);
        fault("if !!!!!!!!b then p fi", 10);
        answers("while (((((((b))))))) do p od", 1);
        fault("while ((((((((b)))))))) do p od", 13);
    }
}
