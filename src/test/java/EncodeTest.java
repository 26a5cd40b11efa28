/** Promise 9: encode. */
public final class EncodeTest {
    public static void main(String[] args) {
        Bench bench = Bench.usual();
        Bench.due("4792", bench.encode(0, 1, 2, 7), "encode add");
        Bench.due("16227", bench.encode(1, 3, -5), "encode li");
        Bench.due("0", bench.encode(3, 9, 9, 9, 9, 9, 9), "encode nop");
        Bench.due("4792", bench.encode(0, 1, 2, 7, -1, Long.MIN_VALUE, Long.MAX_VALUE), "encode add, too many");
        Bench.due(Bench.BOUNDS, bench.encode(4), "encode op 4");
        Bench.due(Bench.BOUNDS, bench.encode(-1), "encode op -1");
        Bench.due(Bench.BOUNDS, bench.encode(Integer.MIN_VALUE), "encode op -2147483648");
        Bench.due(Bench.ARGUMENT, bench.encode(0, 8, 0, 0), "encode, register 8");
        Bench.due(Bench.ARGUMENT, bench.encode(0, 0, 0, -1), "encode, register -1");
        Bench.due(Bench.ARGUMENT, bench.encode(1, 3, 128), "encode, s 8 is 128");
        Bench.due(Bench.ARGUMENT, bench.encode(1, 3, -129), "encode, s 8 is -129");
        Bench.due(Bench.ARGUMENT, bench.encode(2, 512), "encode, p 10 is 512");
        Bench.due(Bench.ARGUMENT, bench.encode(2, -513), "encode, p 10 is -513");
        Bench.due(Bench.ARGUMENT, bench.encode(2, Long.MIN_VALUE), "encode, p 10 is least");
        Bench.due(Bench.ARGUMENT, bench.encode(2, 1L << 32), "encode, p 10 is 2 ** 32");
        Bench.due(String.valueOf(0xc000), bench.encode(2, -512), "encode, p 10 is -512");
        Bench.due(String.valueOf(0xbc1f), bench.encode(2, 511), "encode, p 10 is 511");
        Bench.due(Bench.STATE, new Bench().encode(0), "encode without a description");

        Bench wide = Bench.of("width 32; op a x:u 32 = x;");
        Bench.due("-1", wide.encode(0, 4294967295L), "encode, u 32 is 4294967295");
        Bench.due(Bench.ARGUMENT, wide.encode(0, 4294967296L), "encode, u 32 is 4294967296");
        Bench.due(Bench.ARGUMENT, wide.encode(0, -1), "encode, u 32 is -1");
        Bench six = Bench.of("width 8; op a a:u 1, b:u 1, c:u 1, d:u 1, e:u 1, f:s 1 = f e d c b a 10;");
        Bench.due(String.valueOf(0b101010_10), six.encode(0, 0, 1, 0, 1, 0, -1), "encode, six operands");
        Bench.due(Bench.ARGUMENT, six.encode(0, 0, 1, 0, 1, 0, 1), "encode, the sixth can not be 1");
        Bench.end();
    }
}
