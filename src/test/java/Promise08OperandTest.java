/** Promise 8: operand. The remark at each test quotes the words that it belongs to. */
public final class Promise08OperandTest {
    public static void main(String[] args) {
        operandsOfAWord();
        leastAndMostOfEverySize();
        bitsBeyondTheWidth();
        noOperand();
        noDescription();
        Bench.end();
    }

    /** "Operand k of a WORD (of a register its number)." */
    private static void operandsOfAWord() {
        Bench bench = Bench.usual();
        Bench.due(1, bench.operand(0x1250, 0), "operand 0 of add");
        Bench.due(1, bench.operand(0x1250, 1), "operand 1 of add");
        Bench.due(2, bench.operand(0x1250, 2), "operand 2 of add");
        Bench.due(-5, bench.operand(16227, 1), "operand 1 of li");
        Bench.due(3, bench.operand(16227, 0), "operand 0 of li");
        Bench.due(-2, bench.operand(64542, 0), "operand 0 of jmp");
        Bench.due(-512, bench.operand(0xc000, 0), "operand 0 of jmp, least");
        Bench.due(511, bench.operand(0xbc1f, 0), "operand 0 of jmp, most");
        Bench registers = Bench.of("width 8; set r 6; op a x:r = 00 x;");
        for (int number = 0; number < 64; number++) {
            Bench.due(number, registers.operand(number, 0), "register " + number);
        }
    }

    /** "Operand k": the ends of each kind and size. */
    private static void leastAndMostOfEverySize() {
        for (int bits = 1; bits <= 32; bits++) {
            String fields = " " + bits + " = " + "0".repeat(32 - bits) + " x;";
            long most = (1L << bits) - 1;
            long half = 1L << bits - 1;
            Bench plain = Bench.of("width 32; op a x:u" + fields);
            Bench.due(0, plain.operand(0, 0), "least of u " + bits);
            Bench.due(half, plain.operand((int) half, 0), "half of u " + bits);
            Bench.due(most, plain.operand((int) most, 0), "most of u " + bits);
            for (String kind : new String[] {"s", "p"}) {
                Bench bench = Bench.of("width 32; op a x:" + kind + fields);
                Bench.due(-half, bench.operand((int) half, 0), "least of " + kind + " " + bits);
                Bench.due(half - 1, bench.operand((int) (half - 1), 0), "most of " + kind + " " + bits);
                Bench.due(-1, bench.operand((int) most, 0), "-1 of " + kind + " " + bits);
                Bench.due(0, bench.operand(0, 0), "0 of " + kind + " " + bits);
            }
        }
    }

    /** Promise 7: "its bits beyond W are not looked at, so below" */
    private static void bitsBeyondTheWidth() {
        for (int width = 8; width < 32; width += 8) {
            Bench bench = Bench.of("width " + width + "; op a x:s " + (width - 1) + " = x 0;");
            for (int bit = width; bit < 32; bit++) {
                Bench.due(3, bench.operand(6 | 1 << bit, 0), "width " + width + ": operand with bit " + bit);
            }
            Bench.due(-1, bench.operand(-2, 0), "width " + width + ": all bits but the lowest");
            Bench.due(Bench.BOUNDS, bench.operand(-1, 0), "width " + width + ": all bits");
        }
    }

    /** "IndexOutOfBoundsException: it is of no op, or that has no operand k." */
    private static void noOperand() {
        Bench bench = Bench.of("width 8; op a = 00000000; op b x:u 6 = 10 x;"
                + "op c a:u 1, b:u 1, c:u 1, d:u 1, e:u 1, f:u 1 = 11 a b c d e f;");
        dueNone(bench, 0, 0);
        dueNone(bench, 0x80, 1);
        dueNone(bench, 0xff, 6);
        // 1 is of no op.
        dueNone(bench, 1, 0);
        dueNone(bench, 0x7f, 0);
        Bench.due(63, bench.operand(0xbf, 0), "the only operand of b");
        for (int k = 0; k < 6; k++) {
            Bench.due(1, bench.operand(0b11000000 | 32 >> k, k), "operand " + k + " of c");
            Bench.due(0, bench.operand(0b11111111 ^ 32 >> k, k), "operand " + k + " of c");
        }
        dueNone(Bench.of("width 8;"), 0, 0);
    }

    private static void dueNone(Bench bench, int word, int size) {
        for (int k : new int[] {-1, Integer.MIN_VALUE, size, 6, Integer.MAX_VALUE}) {
            Bench.due(Bench.BOUNDS, bench.operand(word, k), "operand(" + word + ", " + k + ")");
        }
    }

    /** "IllegalStateException likewise": and it is listed before the other one. */
    private static void noDescription() {
        Bench bench = new Bench();
        for (int k : new int[] {0, -1, 6, Integer.MIN_VALUE, Integer.MAX_VALUE}) {
            Bench.due(Bench.STATE, bench.operand(0, k), "operand(0, " + k + ") without a description");
        }
        bench.describe(Bench.USUAL);
        Bench.due(1, bench.operand(0x1250, 0), "operand with a description");
        bench.describe("width 9;");
        Bench.due(Bench.STATE, bench.operand(0x1250, 0), "operand after a wrong description");
    }
}
