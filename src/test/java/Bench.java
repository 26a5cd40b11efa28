import java.util.Arrays;
import java.util.concurrent.Callable;

/** A forge under test that is fed texts instead of octets, and whose answers are told as texts. */
final class Bench {
    static final String BOUNDS = "throws.IndexOutOfBoundsException";
    static final String ARGUMENT = "throws.IllegalArgumentException";
    static final String STATE = "throws.IllegalStateException";

    /** The description of the document's kind that most tests use. */
    static final String USUAL = "width 16; set r 3;\n"
            + "op add d:r, a:r, b:r = 0001 d a b 000;\n"
            + "op li d:r, i:s 8 = 001 i[7:3] d 00 i[2:0];\n"
            + "op jmp t:p 10 = 1 t[9:5] 00000 t[4:0];\n"
            + "op nop = 0000000000000000;";

    private static int failures = 0;

    final OpForge forge = new OpForge();

    static Bench usual() {
        Bench bench = new Bench();
        due("4", bench.describe(USUAL), USUAL);
        return bench;
    }

    /** A forge whose description is the text; the test fails if it is wrong. */
    static Bench of(String description) {
        Bench bench = new Bench();
        bench.describe(description);
        due("-1", bench.wrong(), description);
        return bench;
    }

    void feed(String text) {
        int[] row = new int[5];
        for (int at = 0; at < text.length(); at += 20) {
            for (int i = 0; i < 5; i++) {
                row[i] = four(text, at + 4 * i);
            }
            forge.feed(row[0], row[1], row[2], row[3], row[4]);
        }
    }

    private static int four(String text, int at) {
        int four = 0;
        for (int i = at; i < at + 4; i++) {
            four = four << 8 | (i < text.length() ? text.charAt(i) : 0);
        }
        return four;
    }

    String describe(String text) {
        feed(text);
        return told(() -> forge.describe(text.length()));
    }

    String assemble(String text) {
        feed(text);
        return told(() -> forge.assemble(text.length()));
    }

    String wrong() {
        return told(forge::wrong);
    }

    String word(int k) {
        return told(() -> forge.word(k));
    }

    String op(int word) {
        return told(() -> forge.op(word));
    }

    String operand(int word, int k) {
        return told(() -> forge.operand(word, k));
    }

    String encode(int op, long... values) {
        long[] all = Arrays.copyOf(values, 6);
        return told(() -> forge.encode(op, all[0], all[1], all[2], all[3], all[4], all[5]));
    }

    String count(int what) {
        return told(() -> forge.count(what));
    }

    /** The text of a word, letter by letter, or the exception. */
    String text(int word) {
        String size = told(() -> forge.text(word));
        return size.startsWith("throws.") ? size : read(Integer.parseInt(size));
    }

    String read(int size) {
        StringBuilder letters = new StringBuilder();
        for (int k = 0; 8 * k < size; k++) {
            long eight = forge.letters(k);
            for (int i = 0; i < 8 && 8 * k + i < size; i++) {
                letters.append((char) (eight >>> (56 - 8 * i) & 255));
            }
        }
        return letters.toString();
    }

    /** All words of the program that the text is, blanks between them, or "wrong at" its place. */
    String words(String text) {
        String size = assemble(text);
        if (size.startsWith("throws.")) {
            return "wrong at " + wrong();
        }
        StringBuilder words = new StringBuilder();
        for (int k = 0; k < Integer.parseInt(size); k++) {
            words.append(k == 0 ? "" : " ").append(forge.word(k));
        }
        return words.toString();
    }

    static String told(Callable<?> call) {
        try {
            return String.valueOf(call.call());
        } catch (Exception e) {
            return "throws." + e.getClass().getSimpleName();
        }
    }

    static void due(String want, String got, String what) {
        if (!want.equals(got)) {
            failures++;
            System.out.println(what + " answered " + got + ", due is " + want);
        }
    }

    /** A description is wrong at a place: how a new forge and one that had a description before tell it. */
    static void dueWrongDescription(int at, String text) {
        Bench bench = usual();
        due(ARGUMENT, bench.describe(text), text);
        due(String.valueOf(at), bench.wrong(), "wrong() after " + text);
        due("0", bench.count(2), "count(2) after " + text);
    }

    static void dueDescription(int ops, String text) {
        Bench bench = new Bench();
        due(String.valueOf(ops), bench.describe(text), text);
        due("-1", bench.wrong(), "wrong() after " + text);
    }

    void dueWords(String words, String program) {
        due(words, words(program), program);
    }

    void dueWrongProgram(int at, String program) {
        due("wrong at " + at, words(program), program);
        due("0", count(3), "count(3) after " + program);
    }

    static void end() {
        if (failures != 0) {
            System.out.println(failures + " answers are not as due");
            System.exit(1);
        }
    }
}
