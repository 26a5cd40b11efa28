/** Promise 10: text; what the letters are is tested by the test of term 4. */
public final class Promise10TextTest {
    public static void main(String[] args) {
        howManyLetters();
        bitsBeyondTheWidth();
        untilTheNextOneIsMade();
        noDescription();
        Bench.end();
    }

    /** "TEXT of a WORD: how many letters" */
    private static void howManyLetters() {
        Bench bench = Bench.usual();
        Bench.due(15, bench.text(0x1250), "add r1, r1, r2;");
        Bench.due(10, bench.text(16227), "li r3, -5;");
        Bench.due(9, bench.text(0xc000), "jmp -512;");
        Bench.due(6, bench.text(0x8000), "jmp 0;");
        Bench.due(4, bench.text(0), "nop;");
        Bench.due(12, bench.text(1), "word 0x0001;");
        // The shortest, and the longest.
        Bench.due(2, Bench.of("width 8; op a = 00000000;").text(0), "a;");
        Bench.due(96, Bench.of("width 32; set abcdefghij 5; op abcdefghijkl a:abcdefghij, b:abcdefghij, c:abcdefghij,"
                + "d:abcdefghij, e:abcdefghij, f:abcdefghij = 00 a b c d e f;").text(0x3fffffff), "the longest text");
    }

    /** Promise 7: "its bits beyond W are not looked at, so below" */
    private static void bitsBeyondTheWidth() {
        Bench bench = Bench.usual();
        Bench.due("jmp 511;", bench.line(0x5555bc1f), "text(0x5555bc1f)");
        Bench.due("word 0xffff;", bench.line(-1), "text(-1)");
        Bench.due("word 0xffff;", bench.line(Integer.MAX_VALUE), "text of the most int");
        Bench.due("nop;", bench.line(Integer.MIN_VALUE), "text of the least int");
        Bench.due("word 0x0abc;", bench.line(0xdef00abc), "text(0xdef00abc)");
        for (int bit = 8; bit < 32; bit++) {
            Bench.due("a 3;", Bench.of("width 8; op a x:s 7 = x 0;").line(6 | 1 << bit), "an operand and bit " + bit);
            Bench.due("word 0x07;", Bench.of("width 8; op a x:s 7 = x 0;").line(7 | 1 << bit), "no op and bit " + bit);
        }
    }

    /** "(they can be asked for until the next one is made)" */
    private static void untilTheNextOneIsMade() {
        Bench bench = Bench.usual();
        bench.text(0x1250);
        bench.text(0);
        Bench.due(0x6e6f703b00000000L, bench.letters(0), "letters(0) of the next text");
        Bench.due(Bench.BOUNDS, bench.letters(1), "letters(1) of the next text");
        bench.text(0x1250);
        Bench.due(0x72312c2072323b00L, bench.letters(1), "letters(1) of the third text");
    }

    /** "IllegalStateException likewise." */
    private static void noDescription() {
        Bench bench = new Bench();
        for (int word : new int[] {0, -1, Integer.MIN_VALUE, Integer.MAX_VALUE}) {
            Bench.due(Bench.STATE, bench.text(word), "text(" + word + ") without a description");
        }
        Bench.due(Bench.BOUNDS, bench.letters(0), "letters(0) after a refused text");
        bench.describe(Bench.USUAL);
        Bench.due(4, bench.text(0), "text(0) with a description");
        bench.describe("width 9;");
        Bench.due(Bench.STATE, bench.text(0x1250), "text after a wrong description");
        Bench.due(0x6e6f703b00000000L, bench.letters(0), "letters(0) after a refused text");
    }
}
