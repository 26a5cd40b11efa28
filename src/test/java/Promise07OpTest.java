/** Promise 7: op. The remark at each test quotes the words that it belongs to. */
public final class Promise07OpTest {
    public static void main(String[] args) {
        opOfAWord();
        bitsBeyondTheWidth();
        endsOfInt();
        noDescription();
        Bench.end();
    }

    /** "The op of which a WORD is (0 first ..), -1 none." */
    private static void opOfAWord() {
        Bench bench = Bench.usual();
        Bench.due(0, bench.op(0x1000), "op(0x1000)");
        Bench.due(-1, bench.op(0x1001), "op(0x1001)");
        Bench.due(1, bench.op(0x2000), "op(0x2000)");
        Bench.due(1, bench.op(0x3fe7), "op(0x3fe7)");
        Bench.due(2, bench.op(0xfc1f), "op(0xfc1f)");
        Bench.due(-1, bench.op(0xfc3f), "op(0xfc3f)");
        Bench.due(3, bench.op(0), "op(0)");
        Bench.due(-1, bench.op(1), "op(1)");
        Bench.due(-1, Bench.of("width 8;").op(0), "op(0) without ops");
        // A program changes nothing of it.
        bench.assemble("word 1;");
        Bench.due(-1, bench.op(1), "op(1) with a program");
    }

    /** "its bits beyond W are not looked at" */
    private static void bitsBeyondTheWidth() {
        for (int width = 8; width <= 32; width += 8) {
            String zeros = "0".repeat(width - 2);
            Bench bench = Bench.of("width " + width + "; op a = 10" + zeros + "; op b = 01" + zeros + ";");
            int first = 1 << width - 1;
            int second = 1 << width - 2;
            for (int bit = width; bit < 32; bit++) {
                Bench.due(0, bench.op(first | 1 << bit), "width " + width + ": op with bit " + bit);
                Bench.due(1, bench.op(second | 1 << bit), "width " + width + ": op with bit " + bit);
                Bench.due(-1, bench.op(1 << bit), "width " + width + ": no op with bit " + bit);
            }
            Bench.due(0, bench.op(first), "width " + width + ": the highest bit");
            Bench.due(1, bench.op(second), "width " + width + ": the next bit");
            Bench.due(-1, bench.op(first | second), "width " + width + ": both bits");
        }
    }

    /** "a WORD": any int. */
    private static void endsOfInt() {
        Bench wide = Bench.of("width 32; op a x:u 31 = 1 x; op b = 01111111111111111111111111111111;");
        Bench.due(0, wide.op(-1), "op(-1)");
        Bench.due(0, wide.op(Integer.MIN_VALUE), "op of the least int");
        Bench.due(1, wide.op(Integer.MAX_VALUE), "op of the most int");
        Bench.due(-1, wide.op(0), "op(0)");
        Bench any = Bench.of("width 8; op a x:u 8 = x;");
        for (int word : new int[] {0, -1, -77, 255, 256, Integer.MIN_VALUE, Integer.MAX_VALUE}) {
            Bench.due(0, any.op(word), "op(" + word + ") of an op without fixed bits");
        }
    }

    /** "IllegalStateException: there is no DESCRIPTION." */
    private static void noDescription() {
        Bench bench = new Bench();
        for (int word : new int[] {0, -1, Integer.MIN_VALUE, Integer.MAX_VALUE}) {
            Bench.due(Bench.STATE, bench.op(word), "op(" + word + ") without a description");
        }
        bench.describe(Bench.USUAL);
        Bench.due(3, bench.op(0), "op(0) with a description");
        bench.describe("width");
        Bench.due(Bench.STATE, bench.op(0), "op(0) after a wrong description");
    }
}
