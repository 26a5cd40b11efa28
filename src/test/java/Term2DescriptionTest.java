/** Term 2: THE DESCRIPTION, all but its F. The remark at each test quotes the words that it belongs to. */
public final class Term2DescriptionTest {
    private static final int[] WIDTHS = {8, 16, 24, 32};
    private static final String[] KEYS = {"width", "set", "op", "word", "u", "s", "p"};

    public static void main(String[] args) {
        cutBehindEveryToken();
        noTokenForAnother();
        grammar();
        widths();
        numbersOfFourDigits();
        lettersOfASet();
        bitsOfASet();
        bitsOfAnOperand();
        keysAreNoNames();
        sameNames();
        namesThatAreNotThere();
        twelveSets();
        sixtyOps();
        sixOperands();
        Bench.end();
    }

    /** The grammar: of a text that ends too early the end is wrong; it may end behind the ";" of width, of a set, of an op. */
    private static void cutBehindEveryToken() {
        String text = "width 16; set r 3; op a = 0000000000000000; op b x:r, y:u 4 = 1 x y[3:0] 00000000;";
        Parts parts = new Parts(text);
        int ops = 0;
        for (int i = 0; i < parts.size(); i++) {
            if (parts.is(i, ";")) {
                Bench.dueDescription(ops, parts.cutBehind(i));
            } else {
                Bench.dueWrongDescription(parts.end(i), parts.cutBehind(i));
            }
            ops += parts.is(i, "op") ? 1 : 0;
        }
        Bench.due(2, String.valueOf(ops), "ops in the text that is cut");
    }

    /** The grammar: what can not stand for a token is wrong where that token would begin. */
    private static void noTokenForAnother() {
        Parts parts = new Parts("width 16; set r 3; op a = 0000000000000000; op b x:r, y:p 4 = 1 x y[3:0] 00000000;");
        for (int i = 0; i < parts.size(); i++) {
            Bench.dueWrongDescription(parts.start(i), parts.withoutSense(i));
        }
    }

    /** "width" W ";" {"set" NAME N ";" | "op" NAME [O {"," O}] "=" F {F} ";"} */
    private static void grammar() {
        Bench.dueDescription(0, "width 8;");
        Bench.dueDescription(2, "width 8; op a = 00000000; set r 3; op b = 00000001; set q 3;");
        Bench.dueWrongDescription(0, "set r 3; width 8;");
        for (String other : new String[] {"0x1", "8", "Width", "set", "op", "word", "u", "s", "p", ";", "="}) {
            Bench.dueWrongDescription(0, other + " 8;");
        }
        Bench.dueWrongDescription(9, "width 8; width 8;");
        Bench.dueWrongDescription(8, "width 8;;");
        Bench.dueWrongDescription(8, "width 8 8;");
        Bench.dueWrongDescription(17, "width 8; set r 3 3;");
        Bench.dueWrongDescription(9, "width 8; word 3;");
        Bench.dueWrongDescription(9, "width 8; a = 00000000;");
        Bench.dueWrongDescription(14, "width 8; op a , x:u 8 = x;");
        Bench.dueWrongDescription(14, "width 8; op a ;");
        Bench.dueWrongDescription(21, "width 8; op a x:u 8, = x;");
        Bench.dueWrongDescription(20, "width 8; op a x:u 4 y:u 4 = x y;");
        Bench.dueWrongDescription(16, "width 8; op a = = 00000000;");
        Bench.dueWrongDescription(16, "width 8; op a = ;");
        Bench.dueWrongDescription(16, "width 8; op a x = x;");
        Bench.dueWrongDescription(18, "width 8; op a x:u = x;");
        Bench.dueWrongDescription(25, "width 8; op a = 00000000 , 0;");
    }

    /** "W: an N, 8, 16, 24 or 32 (else WRONG), the bits of a WORD" */
    private static void widths() {
        for (int width : WIDTHS) {
            Bench.due(width + " 0 0 0 0 0", Bench.of("width " + width + ";").counts(), "counts of width " + width);
            Bench.due("word 0x" + "0".repeat(width / 4) + ";", Bench.of("width " + width + ";").line(0), "width " + width);
        }
        for (int width = 0; width <= 300; width++) {
            if (width != 8 && width != 16 && width != 24 && width != 32) {
                Bench.dueWrongDescription(6, "width " + width + ";");
            }
        }
        Bench.dueWrongDescription(6, "width 9999;");
        Bench.dueWrongDescription(6, "width ;");
    }

    /** "N: DIGITS, at most 4 (else WRONG; zeros may stand before)", wherever the grammar has one. */
    private static void numbersOfFourDigits() {
        dueFourDigits("width ", 8, ";");
        dueFourDigits("width 8; set r ", 3, ";");
        dueFourDigits("width 8; op a x:u ", 8, " = x;");
        dueFourDigits("width 8; op a x:s ", 8, " = x;");
        dueFourDigits("width 8; op a x:p ", 8, " = x;");
        dueFourDigits("width 8; op a x:u 8 = x[", 7, ":0];");
        dueFourDigits("width 8; op a x:u 8 = x[7:", 0, "];");
    }

    private static void dueFourDigits(String before, int number, String behind) {
        Bench.of(before + number + behind);
        for (String zeros : new String[] {"0", "00", "000"}) {
            Bench.of(before + zeros + number + behind);
        }
        String[] wrong = {"0000" + number, "0".repeat(31) + number, "9999", "10000", "65536" + number, "4294967304",
            "0x" + number, "-" + number, "x", "u", ":"};
        for (String other : wrong) {
            Bench.dueWrongDescription(before.length(), before + other + behind);
        }
    }

    /** "set: registers, NAME (up to 10 letters, a longer one is WRONG)" */
    private static void lettersOfASet() {
        Bench.dueDescription(0, "width 8; set a 3;");
        Bench.dueDescription(0, "width 8; set abcdefghij 3;");
        Bench.dueDescription(0, "width 8; set a_23456789 3;");
        Bench.dueWrongDescription(13, "width 8; set abcdefghijk 3;");
        Bench.dueWrongDescription(13, "width 8; set abcdefghijkl 3;");
        Bench.dueWrongDescription(13, "width 8; set abcdefghijklm 3;");
        Bench.dueWrongDescription(13, "width 8; set 3 3;");
        // Only sets are so short.
        Bench.dueDescription(1, "width 8; op abcdefghijk abcdefghijkl:u 8 = abcdefghijkl;");
    }

    /** "a number behind it, 0 to 2 ** N - 1 (N 1 to 6)" */
    private static void bitsOfASet() {
        for (int bits = 1; bits <= 6; bits++) {
            Bench bench = Bench.of("width 8; set r " + bits + "; op a x:r = " + "0".repeat(8 - bits) + " x;");
            int most = (1 << bits) - 1;
            bench.dueWords("0 1 " + most, "a r0; a r1; a r" + most + ";");
            bench.dueWrongProgram(2, "a r" + (most + 1) + ";");
            Bench.due(most, bench.encode(0, most), "the last of " + bits + " bits");
            Bench.due(Bench.ARGUMENT, bench.encode(0, most + 1), "one behind the last of " + bits + " bits");
        }
        Bench.dueWrongDescription(15, "width 8; set r 0;");
        Bench.dueWrongDescription(15, "width 8; set r 7;");
        Bench.dueWrongDescription(16, "width 32; set r 7;");
    }

    /** "of N bits (1 to W)" */
    private static void bitsOfAnOperand() {
        for (int width : WIDTHS) {
            for (String kind : new String[] {"u", "s", "p"}) {
                String head = "width " + width + "; op a x:" + kind + " ";
                for (int bits = 1; bits <= width; bits++) {
                    Bench.dueDescription(1, head + bits + " = " + "0".repeat(width - bits) + " x;");
                }
                Bench.dueWrongDescription(head.length(), head + "0 = " + "0".repeat(width) + ";");
                Bench.dueWrongDescription(head.length(), head + (width + 1) + " = x;");
            }
        }
    }

    /** "width, set, op, word, u, s, p are KEYS, no NAMES" */
    private static void keysAreNoNames() {
        for (String key : KEYS) {
            Bench.dueWrongDescription(13, "width 8; set " + key + " 3;");
            Bench.dueWrongDescription(12, "width 8; op " + key + " = 00000000;");
            Bench.dueWrongDescription(14, "width 8; op a " + key + ":u 8 = " + key + ";");
            Bench.dueWrongDescription(22, "width 8; op a x:u 8 = " + key + ";");
            Bench.usual().dueWrongProgram(key.equals("word") ? 4 : 0, key + ": nop;");
            Bench.usual().dueWrongProgram(4, "jmp " + key + "; nop;");
            Bench.usual().dueWrongProgram(4, "add " + key + ", r1, r1;");
            // Just these: what is longer, shorter or written large is a NAME.
            String large = key.substring(0, 1).toUpperCase() + key.substring(1);
            Bench.dueDescription(2, "width 8; set " + key + "_ 1; op " + key + "0 " + large + ":u 6, " + key + "x:" + key
                    + "_ = 1" + key + "x " + large + "; op " + large + " = 00000000;");
        }
        for (String key : new String[] {"width", "set", "op", "word", "p", "5"}) {
            Bench.dueWrongDescription(key.equals("p") ? 18 : 16, "width 8; op a x:" + key + " = x;");
        }
        Bench.dueDescription(1, "width 8; op wor wo:u 8 = wo;");
        Bench.usual().dueWords("0", "U: words: wor: sets: nop;");
    }

    /** "a set, op, operand (within its op) with a NAME that is there as such (.. may have the same NAME)" */
    private static void sameNames() {
        Bench.dueWrongDescription(22, "width 8; set r 3; set r 3;");
        Bench.dueWrongDescription(31, "width 8; set q 3; set r 3; set q 4;");
        Bench.dueWrongDescription(29, "width 8; op a = 00000000; op a = 00000001;");
        Bench.dueWrongDescription(21, "width 8; op a x:u 4, x:u 4 = x;");
        Bench.dueWrongDescription(28, "width 8; op a x:u 4, y:u 4, x:u 4 = x;");
        Bench.dueWrongDescription(28, "width 8; op a x:u 4, y:u 4, y:u 4 = x;");
        Bench.dueDescription(2, "width 8; op a x:u 4 = 0000 x; op b x:u 4 = 0001 x;");
        Bench same = Bench.of("width 8; set r 3; op r r:r, t:p 4 = 1 r t;");
        same.dueWords("155", "r: r r1, -5; r1:");
        same.dueWords("144 159", "r: r r1, r; r1: r r1, r;");
        // Not the same: a NAME that another one begins with, or that is written large.
        Bench.dueDescription(4, "width 8; op abcdefghijkl = 00000000; op abcdefghijk = 00000001; op A = 00000010; op a = 00000011;");
        Bench.dueDescription(0, "width 8; set a 1; set A 1; set aa 1; set a1 1; set a_ 1;");
    }

    /** "a NAME of a set or operand that is not there" */
    private static void namesThatAreNotThere() {
        Bench.dueWrongDescription(16, "width 8; op a x:r = x 00000;");
        Bench.dueWrongDescription(16, "width 8; op a x:r = x 00000; set r 3;");
        Bench.dueWrongDescription(25, "width 8; set r 3; op a x:R = x 00000;");
        Bench.dueWrongDescription(25, "width 8; set r 3; op a x:rr = x 00000;");
        Bench.dueWrongDescription(26, "width 8; set rr 3; op a x:r = x 00000;");
        Bench.dueWrongDescription(25, "width 8; set r 3; op a x:r1 = x 00000;");
        Bench.dueWrongDescription(25, "width 8; set r 3; op a x:a = x 00000;");
        Bench.dueWrongDescription(30, "width 8; set r 3; op a x:r, y:x = x y 00;");
        Bench.dueWrongDescription(22, "width 8; op a x:u 4 = y 0000;");
        Bench.dueWrongDescription(22, "width 8; op a x:u 4 = a 0000;");
        Bench.dueWrongDescription(22, "width 8; op a x:u 4 = X 0000;");
        Bench.dueWrongDescription(22, "width 8; op a x:u 4 = xx 0000;");
        Bench.dueWrongDescription(31, "width 8; set r 3; op a x:u 5 = r 00000;");
        // Of another op.
        Bench.dueWrongDescription(42, "width 8; op a x:u 4 = 0000 x; op b = 0001 x;");
        Bench.dueWrongDescription(48, "width 8; op a x:u 4 = 0000 x; op b y:u 4 = 0001 x;");
        // Of the description before.
        Bench bench = Bench.of("width 8; set r 3; op a x:r = 00000 x;");
        Bench.due(Bench.ARGUMENT, bench.describe("width 8; op a x:r = 00000 x;"), "a set of the description before");
        Bench.due(16, bench.wrong(), "wrong() after a set of the description before");
        Bench.due(1, bench.describe("width 8; set r 3; op a x:r = 00000 x;"), "the names of the description before");
    }

    /** "At most 12 sets .. (of one more its first TOKEN, "set" .. is WRONG)" */
    private static void twelveSets() {
        StringBuilder sets = new StringBuilder("width 8;");
        for (int i = 0; i < 12; i++) {
            sets.append("set r").append(i).append("_ 3;");
        }
        Bench.due("8 12 0 0 0 0", Bench.of(sets.toString()).counts(), "counts of 12 sets");
        Bench.dueDescription(1, sets + " op a x:r0_, y:r11_ = x y 00;");
        Bench.dueWrongDescription(sets.length() + 1, sets + " set q 3;");
        Bench.dueWrongDescription(sets.length() + 1, sets + " set r0_ 3;");
        Bench.dueWrongDescription(sets.length() + 1, sets + " set 5");
        Bench.dueWrongDescription(sets.length() + 1, sets + " set");
    }

    /** "60 ops .. (of one more its first TOKEN, .. "op", is WRONG)" */
    private static void sixtyOps() {
        StringBuilder ops = new StringBuilder("width 8;");
        for (int i = 0; i < 60; i++) {
            ops.append("op a").append(i).append('=').append(Integer.toBinaryString(256 + i).substring(1)).append(';');
        }
        Bench full = Bench.of(ops.toString());
        Bench.due("8 0 60 0 0 0", full.counts(), "counts of 60 ops");
        Bench.due(59, full.op(59), "the last of 60 ops");
        Bench.due("a59;", full.line(59), "the text of the last of 60 ops");
        Bench.due(-1, full.op(60), "no op");
        Bench.dueDescription(60, ops + " set r 3;");
        Bench.dueWrongDescription(ops.length() + 1, ops + " op b = 11111111;");
        Bench.dueWrongDescription(ops.length() + 1, ops + " op a0 = 00000000;");
        Bench.dueWrongDescription(ops.length() + 1, ops + " op 5");
        Bench.dueWrongDescription(ops.length() + 1, ops + " op");
    }

    /** "6 operands of one (of one more its first TOKEN .. is WRONG)" */
    private static void sixOperands() {
        String six = "width 8; op x a:u 1, b:u 1, c:u 1, d:u 1, e:u 1, f:u 1";
        Bench bench = Bench.of(six + " = 00 a b c d e f;");
        Bench.due("x 1, 0, 1, 1, 0, 1;", bench.line(0b00_101101), "six operands");
        Bench.dueWrongDescription(six.length() + 2, six + ", g:u 1 = 0 a b c d e f g;");
        Bench.dueWrongDescription(six.length() + 2, six + ", a:u 1 = 0 a b c d e f;");
        Bench.dueWrongDescription(six.length() + 2, six + ", 5");
        Bench.dueWrongDescription(six.length() + 2, six + ", ");
        // The next op has six of its own.
        Bench.dueDescription(2, six + " = 00 a b c d e f; op y a:u 1, b:u 1, c:u 1, d:u 1, e:u 1, f:u 1 = 01 a b c d e f;");
    }
}
