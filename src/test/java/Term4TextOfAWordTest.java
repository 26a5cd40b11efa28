/** Term 4: TEXT of a WORD. The remark at each test quotes the words that it belongs to. */
public final class Term4TextOfAWordTest {
    public static void main(String[] args) {
        nameOperandsAndSemicolon();
        registersByName();
        numbersWithoutSign();
        numbersWithSign();
        leastAndMostOfEverySize();
        wordsOfNoOp();
        longestText();
        Bench.end();
    }

    /** "the NAME of its op, and operands, "," and a blank between, a blank before the first, ";" behind" */
    private static void nameOperandsAndSemicolon() {
        Bench bench = Bench.usual();
        Bench.due("nop;", bench.line(0), "no operand");
        Bench.due("jmp 511;", bench.line(0xbc1f), "one operand");
        Bench.due("li r3, -5;", bench.line(16227), "two operands");
        Bench.due("add r1, r1, r2;", bench.line(0x1250), "three operands");
        Bench six = Bench.of("width 8; op x a:u 1, b:u 1, c:u 1, d:u 1, e:u 1, f:u 1 = 00 f e d c b a;");
        Bench.due("x 1, 0, 0, 0, 1, 1;", six.line(0b110001), "six operands, in the order of operands");
        Bench names = Bench.of("width 8; op a = 00000000; op abcdefghijkl = 00000001; op A_9 = 00000010;");
        Bench.due("a;", names.line(0), "a NAME of one letter");
        Bench.due("abcdefghijkl;", names.line(1), "a NAME of 12 letters");
        Bench.due("A_9;", names.line(2), "a NAME with other letters");
    }

    /** "registers by name" */
    private static void registersByName() {
        Bench bench = Bench.of("width 8; set q 1; set abcdefghij 6; op a x:abcdefghij, y:q = 0 x y;");
        for (int number = 0; number < 64; number++) {
            String name = "abcdefghij" + number;
            Bench.due("a " + name + ", q" + (number & 1) + ";", bench.line(number << 1 | number & 1), name);
        }
        Bench digits = Bench.of("width 8; set r1 4; op a x:r1 = 0000 x;");
        Bench.due("a r10;", digits.line(0), "register 0 of r1");
        Bench.due("a r115;", digits.line(15), "register 15 of r1");
    }

    /** "numbers in DIGITS" */
    private static void numbersWithoutSign() {
        Bench bench = Bench.of("width 32; op a x:u 32 = x;");
        for (long unit = 1; unit <= 1000000000L; unit *= 10) {
            for (long number : new long[] {unit - 1, unit, unit + 1, 2 * unit, unit + unit / 10}) {
                Bench.due("a " + number + ";", bench.line((int) number), "u 32 is " + number);
            }
        }
        Bench.due("a 2147483648;", bench.line(Integer.MIN_VALUE), "u 32 is 2147483648");
        Bench.due("a 4000000000;", bench.line((int) 4000000000L), "u 32 is 4000000000");
        Bench.due("a 4294967295;", bench.line(-1), "u 32 is 4294967295");
    }

    /** "(- before below 0)" */
    private static void numbersWithSign() {
        for (String kind : new String[] {"s", "p"}) {
            Bench bench = Bench.of("width 32; op a x:" + kind + " 32 = x;");
            for (int unit = 1; unit <= 100000000; unit *= 10) {
                for (int number : new int[] {-unit, 1 - unit, unit, -9 * unit}) {
                    Bench.due("a " + number + ";", bench.line(number), kind + " 32 is " + number);
                }
            }
            for (int number : new int[] {0, -1, 1, Integer.MIN_VALUE, Integer.MIN_VALUE + 1, Integer.MAX_VALUE, -1000000000}) {
                Bench.due("a " + number + ";", bench.line(number), kind + " 32 is " + number);
            }
        }
    }

    /** "numbers in DIGITS (- before below 0)": the ends of each size. */
    private static void leastAndMostOfEverySize() {
        for (int bits = 1; bits <= 32; bits++) {
            String fields = " " + bits + " = " + "0".repeat(32 - bits) + " x;";
            long most = (1L << bits) - 1;
            long half = 1L << bits - 1;
            Bench plain = Bench.of("width 32; op a x:u" + fields);
            Bench.due("a 0;", plain.line(0), "least of u " + bits);
            Bench.due("a " + half + ";", plain.line((int) half), "half of u " + bits);
            Bench.due("a " + most + ";", plain.line((int) most), "most of u " + bits);
            for (String kind : new String[] {"s", "p"}) {
                Bench bench = Bench.of("width 32; op a x:" + kind + fields);
                Bench.due("a " + -half + ";", bench.line((int) half), "least of " + kind + " " + bits);
                Bench.due("a " + (half - 1) + ";", bench.line((int) (half - 1)), "most of " + kind + " " + bits);
                Bench.due("a -1;", bench.line((int) most), "-1 of " + kind + " " + bits);
                Bench.due("a 0;", bench.line(0), "0 of " + kind + " " + bits);
            }
        }
    }

    /** "of no op: word 0x and W / 4 of 0-9 a-f, ";" behind" */
    private static void wordsOfNoOp() {
        int[] words = {0, -1, 0x01234567, 0x89abcdef, 0xfedcba98, 0x9, 0xa, 0xf, 0x10, Integer.MIN_VALUE, Integer.MAX_VALUE};
        for (int width = 8; width <= 32; width += 8) {
            Bench bench = Bench.of("width " + width + ";");
            for (int word : words) {
                String digits = String.format("%08x", word).substring(8 - width / 4);
                Bench.due("word 0x" + digits + ";", bench.line(word), "width " + width + ": text of " + word);
                Bench.due(8 + width / 4, bench.text(word), "width " + width + ": letters of " + word);
            }
        }
    }

    /** The longest of them: a NAME of 12 letters and six registers of 12. */
    private static void longestText() {
        Bench bench = Bench.of("width 32; set abcdefghij 5;"
                + "op abcdefghijkl a:abcdefghij, b:abcdefghij, c:abcdefghij, d:abcdefghij, e:abcdefghij, f:abcdefghij"
                + " = 00 a b c d e f;");
        Bench.due(96, bench.text(0x3fffffff), "letters of the longest text");
        Bench.due("abcdefghijkl" + ", abcdefghij31".repeat(6).substring(1) + ";", bench.line(0x3fffffff), "the longest text");
        Bench.due("abcdefghijkl" + ", abcdefghij0".repeat(6).substring(1) + ";", bench.line(0), "the same with 0");
    }
}
