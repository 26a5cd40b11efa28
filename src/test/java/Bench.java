import java.util.Arrays;
import java.util.concurrent.Callable;

/** A forge under test that is fed texts as well as octets, and whose answers are told as texts. */
final class Bench {
    static final String BOUNDS = "throws.IndexOutOfBoundsException";
    static final String ARGUMENT = "throws.IllegalArgumentException";
    static final String STATE = "throws.IllegalStateException";

    /** A description with operands of every kind but u: registers, numbers with sign, places, and an op without any. */
    static final String USUAL = "width 16; set r 3;\n"
            + "op add d:r, a:r, b:r = 0001 d a b 000;\n"
            + "op li d:r, i:s 8 = 001 i[7:3] d 00 i[2:0];\n"
            + "op jmp t:p 10 = 1 t[9:5] 00000 t[4:0];\n"
            + "op nop = 0000000000000000;";

    /** The document promises nothing of an object behind so many calls, so no test may rest on what it answers then. */
    static final int MOST_CALLS = 512;

    private static int failures = 0;

    private final OpForge forge = new OpForge();
    private int calls = 0;

    static Bench usual() {
        return of(USUAL);
    }

    /** A forge whose description is the text; the test fails if it is wrong. */
    static Bench of(String description) {
        Bench bench = new Bench();
        bench.describe(description);
        due("-1", bench.wrong(), "wrong() after " + description);
        return bench;
    }

    int calls() {
        return calls;
    }

    String feed(int a, int b, int c, int d, int e) {
        return told(() -> forge.feed(a, b, c, d, e));
    }

    /** Feeds the letters of a text, and octets 0 behind them until there are 20, 40, and so on. */
    void feed(String text) {
        for (int at = 0; at < text.length(); at += 20) {
            String fed = feed(four(text, at), four(text, at + 4), four(text, at + 8), four(text, at + 12),
                    four(text, at + 16));
            if (fed.startsWith("throws.")) {
                throw new AssertionError("the test feeds too much: " + text);
            }
        }
    }

    private static int four(String text, int at) {
        int four = 0;
        for (int i = at; i < at + 4; i++) {
            four = four << 8 | (i < text.length() ? text.charAt(i) : 0);
        }
        return four;
    }

    String describe(int n) {
        return told(() -> forge.describe(n));
    }

    String describe(String text) {
        feed(text);
        return describe(text.length());
    }

    String assemble(int n) {
        return told(() -> forge.assemble(n));
    }

    String assemble(String text) {
        feed(text);
        return assemble(text.length());
    }

    String wrong() {
        return told(forge::wrong);
    }

    String word(int k) {
        return told(() -> forge.word(k));
    }

    String op(int word) {
        return told(() -> forge.op(word));
    }

    String operand(int word, int k) {
        return told(() -> forge.operand(word, k));
    }

    /** Operands that are not given are 0. */
    String encode(int op, long... values) {
        long[] all = Arrays.copyOf(values, 6);
        return told(() -> forge.encode(op, all[0], all[1], all[2], all[3], all[4], all[5]));
    }

    String text(int word) {
        return told(() -> forge.text(word));
    }

    String letters(int k) {
        return told(() -> forge.letters(k));
    }

    String count(int what) {
        return told(() -> forge.count(what));
    }

    /** The text of a word, letter by letter, or the exception. */
    String line(int word) {
        String size = text(word);
        return size.startsWith("throws.") ? size : read(Integer.parseInt(size));
    }

    private String read(int size) {
        StringBuilder read = new StringBuilder();
        for (int k = 0; 8 * k < size; k++) {
            long eight = Long.parseLong(letters(k));
            for (int i = 0; i < 8 && 8 * k + i < size; i++) {
                read.append((char) (eight >>> (56 - 8 * i) & 255));
            }
        }
        return read.toString();
    }

    /** All six counts, blanks between them. */
    String counts() {
        StringBuilder counts = new StringBuilder(count(0));
        for (int what = 1; what <= 5; what++) {
            counts.append(' ').append(count(what));
        }
        return counts.toString();
    }

    /** All words of the program that the text is, blanks between them, or "wrong at" its place. */
    String words(String text) {
        String size = assemble(text);
        if (size.startsWith("throws.")) {
            return "wrong at " + wrong();
        }
        StringBuilder words = new StringBuilder();
        for (int k = 0; k < Integer.parseInt(size); k++) {
            words.append(k == 0 ? "" : " ").append(word(k));
        }
        return words.toString();
    }

    private String told(Callable<?> call) {
        calls++;
        if (calls > MOST_CALLS) {
            throw new AssertionError("the test uses an object for more than 512 calls");
        }
        try {
            return String.valueOf(call.call());
        } catch (Exception e) {
            return "throws." + e.getClass().getSimpleName();
        }
    }

    static void due(String want, String got, String what) {
        if (!want.equals(got)) {
            failures++;
            System.out.println(what + " answered " + got + ", due is " + want);
        }
    }

    static void due(long want, String got, String what) {
        due(String.valueOf(want), got, what);
    }

    /** A description that is wrong at a place, where there was another one and a program before. */
    static void dueWrongDescription(int at, String text) {
        Bench bench = of("width 8; op a = 00000000;");
        bench.assemble("a;");
        due(ARGUMENT, bench.describe(text), text);
        due(at, bench.wrong(), "wrong() after " + text);
        due("0 0 0 0 0 0", bench.counts(), "counts after " + text);
    }

    static void dueDescription(int ops, String text) {
        Bench bench = new Bench();
        due(ops, bench.describe(text), text);
        due(-1, bench.wrong(), "wrong() after " + text);
    }

    void dueWords(String words, String program) {
        due(words, words(program), program);
    }

    void dueWords(long word, String program) {
        dueWords(String.valueOf(word), program);
    }

    void dueWrongProgram(int at, String program) {
        due("wrong at " + at, words(program), program);
        due(0, count(3), "count(3) after " + program);
    }

    static void end() {
        if (failures != 0) {
            System.out.println(failures + " answers are not as due");
            System.exit(1);
        }
    }
}
