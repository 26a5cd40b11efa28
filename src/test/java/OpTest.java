/** Promise 7: op. */
public final class OpTest {
    public static void main(String[] args) {
        Bench bench = Bench.usual();
        Bench.due("0", bench.op(0x1000), "op(0x1000)");
        Bench.due("-1", bench.op(0x1001), "op(0x1001)");
        Bench.due("1", bench.op(0x2000), "op(0x2000)");
        Bench.due("1", bench.op(0x3fe7), "op(0x3fe7)");
        Bench.due("2", bench.op(0xfc1f), "op(0xfc1f)");
        Bench.due("-1", bench.op(0xfc3f), "op(0xfc3f)");
        Bench.due("3", bench.op(0), "op(0)");
        Bench.due("-1", bench.op(1), "op(1)");
        Bench.due("3", bench.op(0xabcd0000), "op(0xabcd0000): bits beyond the width");
        Bench.due("0", bench.op(0xffff1000), "op(0xffff1000): bits beyond the width");
        Bench wide = Bench.of("width 32; op a x:u 31 = 1 x;");
        Bench.due("0", wide.op(-1), "op(-1) of 32 bits");
        Bench.due("-1", wide.op(0x7fffffff), "op(0x7fffffff) of 32 bits");
        Bench.due("0", Bench.of("width 8; op a x:u 8 = x;").op(-77), "op(-77) of an op without fixed bits");
        Bench.due("-1", Bench.of("width 8;").op(0), "op(0) without ops");
        Bench.due(Bench.STATE, new Bench().op(0), "op(0) without a description");
        wide.describe("width");
        Bench.due(Bench.STATE, wide.op(-1), "op(-1) after a wrong description");
        Bench.end();
    }
}
