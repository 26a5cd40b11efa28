/** Promise 11: letters. The remark at each test quotes the words that it belongs to. */
public final class Promise11LettersTest {
    public static void main(String[] args) {
        eightAtATime();
        textsOfEveryLength();
        noText();
        latestText();
        Bench.end();
    }

    /** "Letters 8 k to 8 k + 7 .., the first one highest, 0 behind the end." */
    private static void eightAtATime() {
        Bench bench = Bench.usual();
        bench.text(0x1250);
        Bench.due(0x6164642072312c20L, bench.letters(0), "letters(0)");
        Bench.due(0x72312c2072323b00L, bench.letters(1), "letters(1)");
        dueNone(bench, 2);
    }

    private static void dueNone(Bench bench, int size) {
        // 8 times 2 ** 29 is 0 in an int, and 8 times 2 ** 28 is below 0.
        for (int k : new int[] {-1, Integer.MIN_VALUE, size, size + 1, 12, 1 << 28, 1 << 29, 1 << 30, Integer.MAX_VALUE}) {
            Bench.due(Bench.BOUNDS, bench.letters(k), "letters(" + k + ")");
        }
    }

    /** "0 behind the end. IndexOutOfBoundsException: there is none.": texts of 2 to 23 letters, and of 96. */
    private static void textsOfEveryLength() {
        for (int length = 2; length <= 13; length++) {
            String name = "abcdefghijkl".substring(0, length - 1);
            dueText("width 8; op " + name + " = 00000000;", 0, name + ";");
        }
        for (int digits = 1; digits <= 10; digits++) {
            String number = "1234567890".substring(0, digits);
            dueText("width 32; op abcdefghijk x:u 32 = x;", Integer.parseInt(number), "abcdefghijk " + number + ";");
        }
        Bench longest = Bench.of("width 32; set abcdefghij 5; op abcdefghijkl a:abcdefghij, b:abcdefghij, c:abcdefghij,"
                + "d:abcdefghij, e:abcdefghij, f:abcdefghij = 00 a b c d e f;");
        Bench.due(96, longest.text(0x3fffffff), "the longest text");
        // "fghij31;"
        Bench.due(0x666768696a33313bL, longest.letters(11), "letters(11) of the longest text");
        dueNone(longest, 12);
    }

    private static void dueText(String description, int word, String text) {
        Bench bench = Bench.of(description);
        Bench.due(text.length(), bench.text(word), text);
        int eights = (text.length() + 7) / 8;
        for (int k = 0; k < eights; k++) {
            long want = 0;
            for (int at = 8 * k; at < 8 * k + 8; at++) {
                want = want << 8 | (at < text.length() ? text.charAt(at) : 0);
            }
            Bench.due(want, bench.letters(k), "letters(" + k + ") of " + text);
        }
        dueNone(bench, eights);
    }

    /** "IndexOutOfBoundsException: there is none.": no text was made yet. */
    private static void noText() {
        dueNone(new Bench(), 0);
        Bench bench = Bench.usual();
        bench.assemble("nop;");
        dueNone(bench, 0);
        Bench refused = new Bench();
        refused.text(0);
        dueNone(refused, 0);
    }

    /** "of the latest TEXT of a WORD": it stays until the next one is made, whatever else is called. */
    private static void latestText() {
        Bench bench = Bench.usual();
        bench.text(0x1250);
        bench.text(0);
        long nop = 0x6e6f703b00000000L;
        Bench.due(nop, bench.letters(0), "letters(0) of a shorter text");
        dueNone(bench, 1);
        bench.assemble("add r1, r1, r1;");
        bench.feed("add");
        bench.word(0);
        bench.op(0x1250);
        bench.operand(0x1250, 1);
        bench.encode(0, 1, 1, 1);
        Bench.due(nop, bench.letters(0), "letters(0) after other calls");
        bench.assemble("nap;");
        Bench.due(nop, bench.letters(0), "letters(0) after a wrong program");
        bench.describe("width 8;");
        Bench.due(nop, bench.letters(0), "letters(0) after a description");
        bench.describe("width");
        Bench.due(nop, bench.letters(0), "letters(0) after a wrong description");
        Bench.due(Bench.STATE, bench.text(0x1250), "text without a description");
        Bench.due(nop, bench.letters(0), "letters(0) after a refused text");
        dueNone(bench, 1);
    }
}
