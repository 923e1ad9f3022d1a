/** Counts answers that are not the due ones, and types texts; every test of the project uses it. */
final class Checks {
    private int asked;
    private int wrong;

    void due(String call, long got, long want) {
        asked++;
        if (got != want) {
            wrong++;
            if (wrong <= 40) {
                System.out.println(call + " answered " + got + ", due is " + want);
            }
        }
    }

    void holds(String what, boolean so) {
        due(what, so ? 1 : 0, 1);
    }

    void finish(String name) {
        System.out.println(name + ": " + asked + " answers, " + wrong + " not as due");
        if (wrong != 0 || asked == 0) {
            System.exit(1);
        }
    }

    /** Types the text in pieces of up to eight bytes; the answer of the last piece. */
    static int typeText(TestedLoops x, String text) {
        int answer = 0;
        for (int from = 0; from < text.length(); from += 8) {
            int past = Math.min(from + 8, text.length());
            long v = 0;
            for (int k = from; k < past; k++) {
                v = v << 8 | text.charAt(k) & 255;
            }
            answer = x.type(v, past - from);
        }
        return answer;
    }

    /** Clears the text, types this one and makes it a program. */
    static int tell(TestedLoops x, int i, String text) {
        x.clear();
        typeText(x, text);
        return x.program(i);
    }

    static TestedLoops with(String... texts) {
        TestedLoops x = new TestedLoops();
        for (int i = 0; i < texts.length; i++) {
            int answer = tell(x, i, texts[i]);
            if (answer < 0) {
                throw new IllegalStateException(texts[i] + " has a fault: " + answer);
            }
        }
        return x;
    }

    /** The number of a row written as atom, act, atom, .. like "1p3q0". */
    static long row(String told) {
        long number = told.charAt(0) - '0';
        for (int k = 1; k + 1 < told.length(); k += 2) {
            number = number * 12 + 4 * (told.charAt(k) - 'p') + (told.charAt(k + 1) - '0');
        }
        return number;
    }
}
