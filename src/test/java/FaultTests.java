import java.util.ArrayDeque;
import java.util.Deque;
import java.util.List;
import java.util.Random;
import java.util.regex.Matcher;
import java.util.regex.Pattern;

/** Faults of spoilt and of made-up texts, compared with a reader that keeps what it waits for in a stack. */
public final class FaultTests {
    private static final Pattern TOKEN = Pattern.compile("[a-z]+|[^ ]");
    private static final List<String> KNOWN = List.of("skip", "stop", "if", "then", "else", "fi", "while", "do",
        "od", "want", "b", "c", "p", "q", "r", "0", "1", ";", "|", "&", "!", "(", ")");
    private static final Checks CHECKS = new Checks();

    private FaultTests() {
    }

    public static void main(String[] args) {
        Random random = new Random(7);
        int standing = 0;
        for (int k = 0; k < 60000; k++) {
            String text = k % 3 == 0 ? madeUp(random) : spoilt(new Reference(k, k % 8).text, random);
            if (text.length() <= 300) {
                standing += compare(text) ? 1 : 0;
            }
        }
        for (int k = 0; k < 3000; k++) {
            compare(deep(random));
        }
        cutOff();
        CHECKS.holds("some texts stand", standing > 3000);
        CHECKS.finish("FaultTests");
    }

    private static boolean compare(String text) {
        TestedLoops x = new TestedLoops();
        Checks.typeText(x, text);
        int got = x.program(1);
        int want = expected(text);
        CHECKS.due("program '" + text + "'", got, want);
        CHECKS.due("bytes left of '" + text + "'", x.count(1), want < 0 ? text.length() : 0);
        CHECKS.due("places by '" + text + "'", x.count(0), Math.max(want, 0));
        return want >= 0;
    }

    /** Each beginning of a long text, and each with a wrong byte behind it. */
    private static void cutOff() {
        String text = "while b|!c do if (b & 1) then p; skip else want !(0|b); q fi; stop od; r";
        for (int end = 0; end <= text.length(); end++) {
            compare(text.substring(0, end));
            compare(text.substring(0, end) + "  ");
            compare(text.substring(0, end) + "?" + text.substring(end));
            compare(text.substring(0, end) + (char) 0);
        }
    }

    private static String madeUp(Random random) {
        StringBuilder text = new StringBuilder();
        int n = random.nextInt(12);
        for (int k = 0; k < n; k++) {
            text.append(KNOWN.get(random.nextInt(KNOWN.size()))).append(random.nextInt(4) == 0 ? "" : " ");
        }
        return text.toString();
    }

    private static String spoilt(String text, Random random) {
        StringBuilder spoilt = new StringBuilder(text);
        int at = random.nextInt(text.length());
        switch (random.nextInt(6)) {
            case 0:
                spoilt.deleteCharAt(at);
                break;
            case 1:
                spoilt.setCharAt(at, (char) random.nextInt(256));
                break;
            case 2:
                spoilt.insert(at, KNOWN.get(random.nextInt(KNOWN.size())));
                break;
            case 3:
                spoilt.insert(at, " " + KNOWN.get(random.nextInt(KNOWN.size())) + " ");
                break;
            case 4:
                spoilt.setLength(at);
                break;
            default:
                break;
        }
        return spoilt.toString();
    }

    /** Seven to ten that open in one another, of any sorts, closed again as they should be. */
    private static String deep(Random random) {
        int levels = 7 + random.nextInt(4);
        int statements = random.nextInt(levels + 1);
        StringBuilder ahead = new StringBuilder();
        StringBuilder behind = new StringBuilder();
        for (int k = 0; k < statements; k++) {
            boolean choice = random.nextBoolean();
            ahead.append(choice ? "if b then " : "while c do ");
            behind.insert(0, choice ? " fi" : " od");
        }
        ahead.append("want ");
        for (int k = statements; k < levels; k++) {
            boolean not = random.nextBoolean();
            ahead.append(not ? "!" : "(");
            behind.insert(0, not ? "" : ")");
        }
        return ahead + "b" + behind;
    }

    /** What program() is to answer. */
    private static int expected(String text) {
        Matcher tokens = TOKEN.matcher(text);
        Deque<String> waits = new ArrayDeque<>();
        waits.push("statements");
        int open = 0;
        int places = 0;
        boolean more = tokens.find();
        for (int steps = 0; steps < 5000; steps++) {
            String token = more ? tokens.group() : "";
            int at = more ? tokens.start() : text.length();
            if (waits.isEmpty()) {
                return more ? -10 - at : places;
            }
            String wait = waits.pop();
            if (waitsOnly(waits, wait, token)) {
                continue;
            }
            if (wait.equals("close")) {
                open--;
                continue;
            }
            if (!mayStand(wait, token)) {
                return -10 - at;
            }
            open += token.matches("if|while|!|\\(") ? 1 : 0;
            places += token.matches("[pqr]") ? 1 : 0;
            if (open > 8 || places > 16) {
                return -10 - at;
            }
            open -= token.matches("fi|od|\\)") ? 1 : 0;
            waitFor(waits, token);
            more = tokens.find();
        }
        throw new IllegalStateException(text);
    }

    /** Things to wait for that take no token by themselves. */
    private static boolean waitsOnly(Deque<String> waits, String wait, String token) {
        switch (wait) {
            case "statements":
                waits.push("; or not");
                waits.push("statement");
                return true;
            case "test":
                waits.push("& | or not");
                waits.push("one");
                return true;
            case "; or not":
                return !token.equals(";");
            case "& | or not":
                return !token.matches("[&|]");
            case "else or fi":
                if (!token.equals("else")) {
                    waits.push("fi");
                    return true;
                }
                return false;
            default:
                return false;
        }
    }

    private static boolean mayStand(String wait, String token) {
        switch (wait) {
            case "statement":
                return token.matches("skip|stop|p|q|r|if|while|want");
            case "one":
                return token.matches("b|c|0|1|!|\\(");
            case "; or not":
            case "& | or not":
            case "else or fi":
                return true;
            default:
                return token.equals(wait);
        }
    }

    private static void waitFor(Deque<String> waits, String token) {
        switch (token) {
            case "if":
                push(waits, "else or fi", "statements", "then", "test");
                break;
            case "while":
                push(waits, "od", "statements", "do", "test");
                break;
            case "want":
                push(waits, "test");
                break;
            case "else":
                push(waits, "fi", "statements");
                break;
            case ";":
                push(waits, "statements");
                break;
            case "&":
            case "|":
                push(waits, "test");
                break;
            case "!":
                push(waits, "close", "one");
                break;
            case "(":
                push(waits, ")", "test");
                break;
            default:
                break;
        }
    }

    private static void push(Deque<String> waits, String... more) {
        for (String wait : more) {
            waits.push(wait);
        }
    }
}
