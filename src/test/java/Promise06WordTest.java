/** Promise 6: word. The remark at each test quotes the words that it belongs to. */
public final class Promise06WordTest {
    public static void main(String[] args) {
        firstToLast();
        ofAllBits();
        noneThere();
        Bench.end();
    }

    /** "WORD k of THE PROGRAM. IndexOutOfBoundsException: there is none." */
    private static void firstToLast() {
        Bench bench = Bench.usual();
        bench.assemble("word 1; word 0xffff; add r7, r0, r1;");
        Bench.due(1, bench.word(0), "word(0)");
        Bench.due(65535, bench.word(1), "word(1)");
        Bench.due(0b0001_111_000_001_000, bench.word(2), "word(2)");
        dueNone(bench, 3);
        bench.assemble("word 2;");
        Bench.due(2, bench.word(0), "word(0) of the next program");
        dueNone(bench, 1);
        Bench full = Bench.usual();
        full.assemble("nop;".repeat(1000));
        Bench.due(0, full.word(999), "word(999) of 1,000");
        dueNone(full, 1000);
    }

    private static void dueNone(Bench bench, int size) {
        for (int k : new int[] {-1, Integer.MIN_VALUE, size, size + 1, 1000, Integer.MAX_VALUE}) {
            Bench.due(Bench.BOUNDS, bench.word(k), "word(" + k + ") of " + size);
        }
    }

    /** "WORD": of 32 bits it is any int, of fewer one from 0. */
    private static void ofAllBits() {
        Bench.of("width 32; op a x:s 32 = x;").dueWords("-1 -2147483648 2147483647 0 -1",
                "word 0xffffffff; word 0x80000000; word 0x7fffffff; word 0; a -1;");
        Bench.of("width 24; op a x:s 24 = x;").dueWords("16777215 8388608 16777215", "a -1; a -8388608; word 0xffffff;");
        Bench.of("width 16; op a x:p 16 = x;").dueWords("65535 32768 65535", "a -1; a -32768; word 0xffff;");
        Bench.of("width 8; op a x:p 8 = x;").dueWords("255 128 255", "a -1; a -128; word 0xff;");
    }

    /** "there is none": without a program, in an empty one, after a wrong text, after describe. */
    private static void noneThere() {
        dueNone(new Bench(), 0);
        Bench bench = Bench.usual();
        dueNone(bench, 0);
        bench.assemble("word 3;");
        bench.assemble("");
        dueNone(bench, 0);
        bench.assemble("word 3;");
        bench.assemble("word 3; word");
        dueNone(bench, 0);
        bench.assemble("word 3;");
        bench.describe(Bench.USUAL);
        dueNone(bench, 0);
        bench.assemble("word 3;");
        bench.describe("width 9;");
        dueNone(bench, 0);
    }
}
