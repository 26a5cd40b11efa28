/** Promise 8: operand. */
public final class OperandTest {
    public static void main(String[] args) {
        Bench bench = Bench.usual();
        Bench.due("1", bench.operand(0x1250, 0), "operand 0 of add");
        Bench.due("1", bench.operand(0x1250, 1), "operand 1 of add");
        Bench.due("2", bench.operand(0x1250, 2), "operand 2 of add");
        Bench.due("2", bench.operand(0x7fff1250, 2), "operand 2 of add, bits beyond the width");
        Bench.due(Bench.BOUNDS, bench.operand(0x1250, 3), "operand 3 of add");
        Bench.due(Bench.BOUNDS, bench.operand(0x1250, -1), "operand -1 of add");
        Bench.due(Bench.BOUNDS, bench.operand(0x1250, Integer.MAX_VALUE), "operand 2147483647 of add");
        Bench.due("-5", bench.operand(16227, 1), "operand 1 of li");
        Bench.due("3", bench.operand(16227, 0), "operand 0 of li");
        Bench.due("-2", bench.operand(64542, 0), "operand 0 of jmp");
        Bench.due("-512", bench.operand(0xc000, 0), "operand 0 of jmp, least");
        Bench.due("511", bench.operand(0xbc1f, 0), "operand 0 of jmp, most");
        Bench.due(Bench.BOUNDS, bench.operand(0, 0), "operand 0 of nop");
        Bench.due(Bench.BOUNDS, bench.operand(1, 0), "operand 0 of no op");
        Bench.due(Bench.STATE, new Bench().operand(0, 0), "operand without a description");

        Bench.due("4294967295", Bench.of("width 32; op a x:u 32 = x;").operand(-1, 0), "u 32");
        Bench.due("-1", Bench.of("width 32; op a x:s 32 = x;").operand(-1, 0), "s 32");
        Bench.due("-2147483648", Bench.of("width 32; op a x:p 32 = x;").operand(1 << 31, 0), "p 32");
        Bench bits = Bench.of("width 8; set r 6; op a x:s 1, y:u 1, r:r = y x r;");
        Bench.due("-1", bits.operand(0x40, 0), "s 1");
        Bench.due("0", bits.operand(0x80, 0), "s 1");
        Bench.due("1", bits.operand(0x80, 1), "u 1");
        Bench.due("63", bits.operand(0x3f, 2), "register");
        Bench.end();
    }
}
