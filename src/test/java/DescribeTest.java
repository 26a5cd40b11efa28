/** Promise 3: describe, with terms 1 and 2. */
public final class DescribeTest {
    public static void main(String[] args) {
        stateAfterIt();
        nothingStaysOfTheOneBefore();
        textEndsAtItsEnd();
        letters();
        tokens();
        widths();
        sets();
        operands();
        fields();
        sameNames();
        keys();
        overlaps();
        limits();
        Bench.end();
    }

    private static void stateAfterIt() {
        Bench bench = Bench.usual();
        bench.assemble("a: nop;");
        bench.feed("width 8;");
        Bench.due(Bench.BOUNDS, Bench.told(() -> bench.forge.describe(-1)), "describe(-1)");
        Bench.due(Bench.BOUNDS, Bench.told(() -> bench.forge.describe(21)), "describe(21)");
        Bench.due("20", bench.count(5), "count(5) after describe(21)");
        Bench.due("4", bench.count(2), "count(2) after describe(21)");
        Bench.due("1", bench.count(3), "count(3) after describe(21)");
        Bench.due("0", Bench.told(() -> bench.forge.describe(8)), "describe(8)");
        Bench.due("0", bench.count(5), "count(5) after describe(8)");
        Bench.due("0", bench.count(3), "count(3) after describe(8)");
        Bench.due("0", bench.count(4), "count(4) after describe(8)");
        Bench.due("8", bench.count(0), "count(0) after describe(8)");
        bench.feed("width 8;");
        bench.assemble("");
        bench.feed("width 9;");
        Bench.due(Bench.ARGUMENT, Bench.told(() -> bench.forge.describe(8)), "describe, wrong");
        Bench.due("0", bench.count(5), "count(5) after describe, wrong");
        Bench.due("0", bench.count(0), "count(0) after describe, wrong");
        Bench.due(Bench.STATE, bench.op(0), "op(0) after describe, wrong");
        Bench.due(Bench.STATE, Bench.told(() -> bench.forge.assemble(0)), "assemble(0) after describe, wrong");
    }

    private static void nothingStaysOfTheOneBefore() {
        Bench bench = Bench.of("width 16; set r 6; set q 6; op a x:u 4, y:r = 111111 x y;");
        bench.describe("width 8; set r 1; op a x:r, y:s 6 = 0 y x; op b x:u 7 = 1 x;");
        Bench.due("-1", bench.wrong(), "wrong() after the next description");
        Bench.due("8", bench.count(0), "count(0) of the next description");
        Bench.due("1", bench.count(1), "count(1) of the next description");
        Bench.due("a r1, -32;", bench.text(0x41), "text(0x41) of the next description");
        Bench.due("b 127;", bench.text(0xff), "text(0xff) of the next description");
        Bench.due(String.valueOf(0x41), bench.encode(0, 1, -32), "encode of the next description");
        Bench.due("a r1, -32;", bench.text(0xffffff41), "text(0xffffff41) of the next description");
        bench.describe("width 8; op c x:u 8 = x;");
        Bench.due("c 129;", bench.text(0x81), "text(0x81) of the third description");
    }

    private static void textEndsAtItsEnd() {
        Bench bench = new Bench();
        bench.feed("width 8; op a = 00000000;");
        Bench.due("0", Bench.told(() -> bench.forge.describe(8)), "describe(8) of more");
        bench.feed("width 16;");
        Bench.due(Bench.ARGUMENT, Bench.told(() -> bench.forge.describe(7)), "describe(7) of width 16;");
        Bench.due("6", bench.wrong(), "wrong() after describe(7) of width 16;");
        Bench.dueWrongDescription(0, ";".repeat(4000));
        Bench.dueDescription(0, "width 8;" + " ".repeat(3992));
    }

    private static void letters() {
        Bench.dueDescription(0, "\n\nwidth\n8\n;\n");
        Bench.dueWrongDescription(8, "width 9;\t");
        Bench.dueWrongDescription(1, " \r");
        Bench.dueWrongDescription(9, "width 9; \u007f \u0000");
        Bench.dueWrongDescription(9, "width 8; \u0080");
        Bench.dueWrongDescription(9, "width 8; \u00ff");
        Bench.dueWrongDescription(9, "width 8; ~");
        Bench.dueWrongDescription(6, "width 9; ~");
        Bench.dueWrongDescription(9, "width 8; $ \n");
        Bench.dueWrongDescription(10, "width 8   ");
        Bench.dueWrongDescription(0, "");
        Bench.dueWrongDescription(3, "  \n");
    }

    private static void tokens() {
        Bench.dueDescription(1, "width 8;op a x:u 4=0000x;");
        Bench.dueDescription(1, "width 8;op a x:u 4=0000 x [ 3 : 0 ] ;");
        Bench.dueDescription(1, "width 8; op a x:u 7 = 0x;");
        Bench.dueDescription(1, "width 8; op a xG:u 7 = 0xG;");
        Bench.dueWrongDescription(23, "width 8; op a xa:u 7 = 0xa;");
        Bench.dueDescription(1, "width 8; op a xa:u 6 = 00xa;");
        Bench.dueDescription(1, "width 8; op abcdefghijkl = 00000000;");
        Bench.dueWrongDescription(26, "width 8; op abcdefghijklm = 00000000;");
        Bench.dueDescription(1, "width 8; op abcdefghijklm:u 8 = m;");
        Bench.dueDescription(1, "width 8; op _Aa09zZ_ = 00000000;");
        Bench.dueDescription(1, "width 8; op Z = 00000000;");
        Bench.dueDescription(1, "width 8; op z = 00000000;");
        String[] besides = {"@", "`", "{", "/", "^"};
        for (String beside : besides) {
            Bench.dueWrongDescription(12, "width 8; op " + beside + " = 00000000;");
            Bench.dueWrongDescription(13, "width 8; op a" + beside + " = 00000000;");
        }
        Bench.dueWrongDescription(12, "width 8; op 9a = 00000000;");
        Bench.dueWrongDescription(0, "width8;");
        Bench.dueWrongDescription(0, "Width 8;");
        Bench.dueDescription(1, "width 32; op a = " + "01".repeat(16) + ";");
        Bench.dueWrongDescription(49, "width 32; op a = " + "01".repeat(16) + "0;");
    }

    private static void widths() {
        Bench.dueDescription(0, "width 8;");
        Bench.dueDescription(0, "width 16;");
        Bench.dueDescription(0, "width 24;");
        Bench.dueDescription(0, "width 0032;");
        Bench.dueWrongDescription(6, "width 00032;");
        Bench.dueWrongDescription(6, "width 0;");
        Bench.dueWrongDescription(6, "width 12;");
        Bench.dueWrongDescription(6, "width 40;");
        Bench.dueWrongDescription(6, "width 0x8;");
        Bench.dueWrongDescription(6, "width -8;");
        Bench.dueWrongDescription(8, "width 8 8;");
        Bench.dueWrongDescription(9, "width 8; width 8;");
        Bench.dueWrongDescription(9, "width 8; ;");
    }

    private static void sets() {
        Bench.dueDescription(0, "width 8; set r 1; set abcdefghij 6;");
        Bench.dueWrongDescription(13, "width 8; set abcdefghijk 6;");
        Bench.dueWrongDescription(15, "width 8; set r 0;");
        Bench.dueWrongDescription(15, "width 8; set r 7;");
        Bench.dueWrongDescription(15, "width 8; set r 00001;");
        Bench.dueWrongDescription(13, "width 8; set 5 5;");
        Bench.dueWrongDescription(15, "width 8; set r ;");
        Bench.dueWrongDescription(16, "width 8; set r 5");
    }

    private static void operands() {
        Bench.dueDescription(1, "width 32; op a x:u 32 = x;");
        Bench.dueDescription(1, "width 8; op a x:p 1, y:s 1, z:u 6 = x y z;");
        Bench.dueWrongDescription(18, "width 8; op a x:u 0 = x;");
        Bench.dueWrongDescription(18, "width 8; op a x:u 9 = x;");
        Bench.dueWrongDescription(18, "width 8; op a x:s 9 = x;");
        Bench.dueWrongDescription(18, "width 8; op a x:p 00008 = x;");
        Bench.dueWrongDescription(18, "width 8; op a x:u = x;");
        Bench.dueWrongDescription(16, "width 8; op a x:r = x;");
        Bench.dueWrongDescription(16, "width 8; op a x:u8 = x;");
        Bench.dueWrongDescription(16, "width 8; op a x:width = x;");
        Bench.dueWrongDescription(16, "width 8; op a x = x;");
        Bench.dueWrongDescription(14, "width 8; op a , x:u 8 = x;");
        Bench.dueWrongDescription(21, "width 8; op a x:u 8, = x;");
        Bench.dueWrongDescription(20, "width 8; op a x:u 4 y:u 4 = x y;");
        Bench.dueDescription(1, "width 8; set r 3; op a x:r, y:r = x y 00;");
        Bench.dueWrongDescription(16, "width 8; op a x:r = x 00000; set r 3;");
    }

    private static void fields() {
        Bench.dueWrongDescription(16, "width 8; op a = ;");
        Bench.dueWrongDescription(16, "width 8; op a = 00000002;");
        Bench.dueWrongDescription(16, "width 8; op a = 000000000;");
        Bench.dueWrongDescription(24, "width 8; op a = 0000000 ;");
        Bench.dueWrongDescription(22, "width 8; op a x:u 4 = y 0000;");
        Bench.dueWrongDescription(22, "width 8; op a x:u 4 = u 0000;");
        Bench.dueWrongDescription(24, "width 8; op a x:u 4 = x[4:0] 0000;");
        Bench.dueWrongDescription(26, "width 8; op a x:u 4 = x[2:3] 0000;");
        Bench.dueWrongDescription(24, "width 8; op a x:u 4 = x[:0] 0000;");
        Bench.dueWrongDescription(25, "width 8; op a x:u 4 = x[3] 0000;");
        Bench.dueWrongDescription(28, "width 8; op a x:u 4 = x[3:0 0000;");
        Bench.dueDescription(1, "width 8; op a x:u 4 = x[0003:0003] 0000 x[2:2]x[1:0];");
        Bench.dueWrongDescription(35, "width 8; op a x:u 4 = x[3:2] 000000;");
        Bench.dueWrongDescription(34, "width 8; op a x:u 4 = 0000 x[3:1] x[3:0];");
        Bench.dueWrongDescription(34, "width 8; op a x:u 4 = x[3:1] 00000;");
        Bench.dueWrongDescription(34, "width 8; op a x:u 4 = x[2:0] 00000;");
        Bench.dueWrongDescription(29, "width 8; op a x:u 4 = x[2:0] x[2:2] 0000;");
        Bench.dueWrongDescription(29, "width 8; op a x:u 4 = x[2:0] x[3:2] 000;");
        Bench.dueWrongDescription(29, "width 8; op a x:u 4 = x[3:1] x[1:0] 000;");
        Bench.dueWrongDescription(24, "width 8; op a x:u 4 = x x;");
        Bench.dueWrongDescription(26, "width 8; op a x:u 4 = x x[9:0];");
        Bench.dueWrongDescription(31, "width 8; op a x:u 5, y:u 5 = x y;");
        Bench.dueWrongDescription(34, "width 8; op a x:u 4 = 0000 x[3:1] ;");
        Bench.dueWrongDescription(25, "width 8; op a = 00000000 $;");
        Bench.dueWrongDescription(24, "width 8; op a = 00000000");
        Bench.dueWrongDescription(24, "width 8; op a = 00000000:");
    }

    private static void sameNames() {
        Bench.dueDescription(1, "width 8; set r 3; op r r:r = r 00000;");
        Bench.dueWrongDescription(22, "width 8; set r 3; set r 3;");
        Bench.dueWrongDescription(29, "width 8; op a = 00000000; op a = 00000001;");
        Bench.dueWrongDescription(21, "width 8; op a x:u 4, x:u 4 = x;");
        Bench.dueDescription(2, "width 8; op a x:u 4 = 0000 x; op b x:u 4 = 0001 x;");
        Bench.dueWrongDescription(42, "width 8; op a x:u 4 = 0000 x; op b = 0001 x;");
        Bench.dueDescription(2, "width 8; op abcdefghijkl = 00000000; op abcdefghijk = 00000001;");
    }

    private static void keys() {
        String[] keys = {"width", "set", "op", "word", "u", "s", "p"};
        for (String key : keys) {
            Bench.dueWrongDescription(13, "width 8; set " + key + " 3;");
            Bench.dueWrongDescription(12, "width 8; op " + key + " = 00000000;");
            Bench.dueWrongDescription(14, "width 8; op a " + key + ":u 8 = " + key + ";");
            Bench.dueDescription(1, "width 8; op " + key + "_ " + key + "0:u 8 = " + key + "0;");
        }
    }

    private static void overlaps() {
        Bench.dueWrongDescription(33, "width 8; op a x:u 4 = 0000 x; op b y:u 3 = 0 y 0000;");
        Bench.dueDescription(2, "width 8; op a x:u 4 = 0000 x; op b y:u 7 = 1 y;");
        Bench.dueWrongDescription(29, "width 8; op a x:u 8 = x;  op b = 00000000; $");
        Bench.dueWrongDescription(46, "width 8; op a = 00000000; op c = 00000001; op b x:u 1 = 0000000 x; op $");
        // Too few bits are looked at before the words that are of two ops.
        Bench.dueWrongDescription(40, "width 8; op a x:u 8 = x; op b = 0000000 ;");
        Bench.dueDescription(2, "width 32; op a x:u 31 = 1 x; op b x:u 31 = 0 x;");
    }

    private static void limits() {
        StringBuilder sets = new StringBuilder("width 8;");
        for (int i = 0; i < 12; i++) {
            sets.append("set r").append(i).append(" 3;");
        }
        Bench.dueDescription(0, sets.toString());
        Bench.dueWrongDescription(sets.length() + 1, sets + " set 5");
        Bench.dueDescription(1, sets + " op a x:r11 = x 00000;");

        StringBuilder ops = new StringBuilder("width 8;");
        for (int i = 0; i < 60; i++) {
            String bits = Integer.toBinaryString(256 + i).substring(1);
            ops.append("op a").append(i).append('=').append(bits).append(';');
        }
        Bench.dueDescription(60, ops.toString());
        Bench.dueWrongDescription(ops.length() + 1, ops + " op 5");
        Bench.dueDescription(60, ops + " set r 3;");

        String six = "width 8; op x a:u 1, b:u 1, c:u 1, d:u 1, e:u 1, f:u 1";
        Bench.dueDescription(1, six + " = a b c d e f 00;");
        Bench.dueWrongDescription(six.length() + 2, six + ", g:u 1 = a b c d e f g 0;");
        Bench.dueWrongDescription(six.length() + 2, six + ", a:u 1 = a b c d e f g 0;");
    }
}
