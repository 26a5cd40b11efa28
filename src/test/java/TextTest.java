/** Promise 10: text, with term 4. */
public final class TextTest {
    public static void main(String[] args) {
        Bench bench = Bench.usual();
        Bench.due("15", Bench.told(() -> bench.forge.text(0x1250)), "text(0x1250)");
        Bench.due("add r1, r1, r2;", bench.text(0x1250), "text(0x1250)");
        Bench.due("li r3, -5;", bench.text(16227), "text(16227)");
        Bench.due("jmp -512;", bench.text(0xc000), "text(0xc000)");
        Bench.due("jmp 0;", bench.text(0x8000), "text(0x8000)");
        Bench.due("jmp 511;", bench.text(0x5555bc1f), "text(0x5555bc1f)");
        Bench.due("nop;", bench.text(0), "text(0)");
        Bench.due("word 0x0001;", bench.text(1), "text(1)");
        Bench.due("word 0xffff;", bench.text(-1), "text(-1)");
        Bench.due("word 0x0abc;", bench.text(0xdef00abc), "text(0xdef00abc)");
        Bench.due(Bench.STATE, new Bench().text(0), "text without a description");

        Bench.due("word 0x9f;", Bench.of("width 8;").text(0x9f), "8 bits");
        Bench.due("word 0x00009f;", Bench.of("width 24;").text(0x9f), "24 bits");
        Bench.due("word 0xfffffffe;", Bench.of("width 32;").text(-2), "32 bits");
        Bench.due("a 4294967295;", Bench.of("width 32; op a x:u 32 = x;").text(-1), "u 32");
        Bench.due("a 1000000000;", Bench.of("width 32; op a x:u 32 = x;").text(1000000000), "u 32");
        Bench.due("a -2147483648;", Bench.of("width 32; op a x:s 32 = x;").text(1 << 31), "s 32");
        Bench.due("a 10, 9;", Bench.of("width 8; op a x:u 4, y:u 4 = x y;").text(0xa9), "u 4");
        longest();
        Bench.end();
    }

    private static void longest() {
        Bench bench = Bench.of("width 32; set abcdefghij 4; set r1 6;"
                + "op abcdefghijkl a:abcdefghij, b:abcdefghij, c:abcdefghij, d:abcdefghij, e:abcdefghij, f:r1"
                + " = a b c d e f 111111;");
        Bench.due("abcdefghijkl abcdefghij15, abcdefghij15, abcdefghij10, abcdefghij10, abcdefghij15, r163;",
                bench.text(0xffaaffff), "a long text");
        Bench most = Bench.of("width 32; set abcdefghij 5;"
                + "op abcdefghijkl a:abcdefghij, b:abcdefghij, c:abcdefghij, d:abcdefghij, e:abcdefghij, f:abcdefghij"
                + " = 00 a b c d e f;");
        // 6 operands of 5 bits and "00" are 32 bits: each of them is 31.
        Bench.due("96", Bench.told(() -> most.forge.text(0x3fffffff)), "the longest text");
        Bench.due("abcdefghijkl abcdefghij31, abcdefghij31, abcdefghij31, abcdefghij31, abcdefghij31, abcdefghij31;",
                most.text(0x3fffffff), "the longest text");
    }
}
