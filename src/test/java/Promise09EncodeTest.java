/** Promise 9: encode. The remark at each test quotes the words that it belongs to. */
public final class Promise09EncodeTest {
    public static void main(String[] args) {
        wordOfAnOp();
        onlyThoseThatItHas();
        leastAndMostOfEverySize();
        everyOperandIsLookedAt();
        noSuchOp();
        noDescription();
        Bench.end();
    }

    /** "The WORD of an op with operands a, b, c, d, e, f" */
    private static void wordOfAnOp() {
        Bench bench = Bench.usual();
        Bench.due(4792, bench.encode(0, 1, 2, 7), "encode add");
        Bench.due(16227, bench.encode(1, 3, -5), "encode li");
        Bench.due(0xc000, bench.encode(2, -512), "encode jmp, least");
        Bench.due(0xbc1f, bench.encode(2, 511), "encode jmp, most");
        Bench.due(0, bench.encode(3), "encode nop");
        Bench.due(-1, Bench.of("width 32; op a = 11111111111111111111111111111111;").encode(0), "32 bits, all 1");
        Bench.due(255, Bench.of("width 8; op a x:s 8 = x;").encode(0, -1), "8 bits, all 1");
        Bench.due(16777215, Bench.of("width 24; op a x:p 24 = x;").encode(0, -1), "24 bits, all 1");
    }

    /** "(those that it has)" */
    private static void onlyThoseThatItHas() {
        Bench bench = Bench.usual();
        long most = Long.MAX_VALUE;
        long least = Long.MIN_VALUE;
        Bench.due(0, bench.encode(3, least, most, least, most, least, most), "encode nop");
        Bench.due(0xbc1f, bench.encode(2, 511, most, least, most, least, most), "encode jmp");
        Bench.due(16227, bench.encode(1, 3, -5, most, least, most, least), "encode li");
        Bench.due(4792, bench.encode(0, 1, 2, 7, -1, least, most), "encode add");
    }

    /** "IllegalArgumentException: an operand can not be that": the ends of each kind and size. */
    private static void leastAndMostOfEverySize() {
        for (int bits = 1; bits <= 32; bits++) {
            dueRange("u", bits, 0, (1L << bits) - 1);
            dueRange("s", bits, -(1L << bits - 1), (1L << bits - 1) - 1);
            dueRange("p", bits, -(1L << bits - 1), (1L << bits - 1) - 1);
        }
        for (int bits = 1; bits <= 6; bits++) {
            Bench bench = Bench.of("width 8; set r " + bits + "; op a x:r = " + "0".repeat(8 - bits) + " x;");
            dueEnds(bench, "register of " + bits, bits, 0, (1L << bits) - 1);
        }
    }

    private static void dueRange(String kind, int bits, long least, long most) {
        Bench bench = Bench.of("width 32; op a x:" + kind + " " + bits + " = " + "0".repeat(32 - bits) + " x;");
        dueEnds(bench, kind + " " + bits, bits, least, most);
    }

    private static void dueEnds(Bench bench, String what, int bits, long least, long most) {
        for (long value : new long[] {least, most}) {
            Bench.due((int) (value & (1L << bits) - 1), bench.encode(0, value), what + " is " + value);
        }
        // Of the last three the lowest 32 bits are 0, which it can be.
        for (long value : new long[] {least - 1, most + 1, Long.MIN_VALUE, Long.MAX_VALUE, 1L << 32, -(1L << 32), 1L << 62}) {
            Bench.due(Bench.ARGUMENT, bench.encode(0, value), what + " is " + value);
        }
    }

    /** "an operand": each of the six. */
    private static void everyOperandIsLookedAt() {
        Bench six = Bench.of("width 8; op a a:u 1, b:u 1, c:u 1, d:u 1, e:u 1, f:s 1 = f e d c b a 10;");
        Bench.due(0b101010_10, six.encode(0, 0, 1, 0, 1, 0, -1), "encode, six operands");
        for (int k = 0; k < 6; k++) {
            long[] values = new long[6];
            values[k] = k < 5 ? 1 : -1;
            Bench.due(1 << k + 2 | 2, six.encode(0, values), "operand " + k + " is " + values[k]);
            values[k] = -values[k];
            Bench.due(Bench.ARGUMENT, six.encode(0, values), "operand " + k + " is " + values[k]);
            values[k] = 2;
            Bench.due(Bench.ARGUMENT, six.encode(0, values), "operand " + k + " is 2");
        }
        Bench.due(2, six.encode(0), "all operands 0 after those that were refused");
    }

    /** "IndexOutOfBoundsException: there is no such op": and it is listed before the operands. */
    private static void noSuchOp() {
        Bench bench = Bench.usual();
        for (int op : new int[] {-1, 4, 5, 60, Integer.MIN_VALUE, Integer.MAX_VALUE}) {
            Bench.due(Bench.BOUNDS, bench.encode(op), "encode(" + op + ")");
            Bench.due(Bench.BOUNDS, bench.encode(op, Long.MIN_VALUE, 99, 99, 99, 99, 99), "encode(" + op + "), operands wrong too");
        }
        Bench.due(Bench.BOUNDS, Bench.of("width 8;").encode(0), "encode(0) without ops");
        // Ops of the description before are not there.
        bench.describe("width 8; op a = 00000001;");
        Bench.due(1, bench.encode(0), "encode(0) of the next description");
        Bench.due(Bench.BOUNDS, bench.encode(1, 3, -5), "encode(1) of the next description");
    }

    /** "IllegalStateException likewise": and it is listed before the others. */
    private static void noDescription() {
        Bench bench = new Bench();
        for (int op : new int[] {0, -1, 60, Integer.MIN_VALUE, Integer.MAX_VALUE}) {
            Bench.due(Bench.STATE, bench.encode(op), "encode(" + op + ") without a description");
            Bench.due(Bench.STATE, bench.encode(op, Long.MAX_VALUE), "encode(" + op + ") without a description");
        }
        bench.describe(Bench.USUAL);
        Bench.due(4792, bench.encode(0, 1, 2, 7), "encode with a description");
        bench.describe("width 9;");
        Bench.due(Bench.STATE, bench.encode(0, 1, 2, 7), "encode after a wrong description");
    }
}
