/** Term 3: V, numbers and registers. The remark at each test quotes the words that it belongs to. */
public final class Term3ValuesTest {
    private static final String EIGHT = "width 8; set r 2; op s1 x:s 6 = 00 x; op u1 x:u 6 = 01 x; op p1 x:p 6 = 10 x;"
            + "op r x:r = 110000 x;";

    public static void main(String[] args) {
        numbersOfEverySize();
        beginsAtItsMinus();
        minusZero();
        tenDigits();
        moreThanTenDigits();
        numbersAsTheyAreWritten();
        registersByName();
        noZeroBeforeAnotherDigit();
        setsWithDigits();
        Bench.end();
    }

    /** "it must be a number that the operand can be (else WRONG where it begins": the least and the most of each size. */
    private static void numbersOfEverySize() {
        for (int bits = 1; bits <= 32; bits++) {
            dueRange("u", bits, 0, (1L << bits) - 1);
            dueRange("s", bits, -(1L << bits - 1), (1L << bits - 1) - 1);
            dueRange("p", bits, -(1L << bits - 1), (1L << bits - 1) - 1);
        }
    }

    private static void dueRange(String kind, int bits, long least, long most) {
        Bench bench = Bench.of("width 32; op a x:" + kind + " " + bits + " = " + "0".repeat(32 - bits) + " x;");
        for (long value : new long[] {least, most}) {
            int word = (int) (value & (1L << bits) - 1);
            bench.dueWords(word + " " + word, "a " + value + "; a " + hex(value) + ";");
        }
        bench.dueWrongProgram(2, "a " + (least - 1) + ";");
        bench.dueWrongProgram(2, "a " + (most + 1) + ";");
        bench.dueWrongProgram(2, "a " + hex(least - 1) + ";");
        if (most + 1 < 1L << 32) {
            bench.dueWrongProgram(2, "a " + hex(most + 1) + ";");
        }
        // Both ends of what V can be written at all.
        bench.dueWrongProgram(2, "a 9999999999;");
        bench.dueWrongProgram(2, "a -9999999999;");
        bench.dueWrongProgram(2, "a -0xffffffff;");
    }

    private static String hex(long value) {
        return value < 0 ? "-0x" + Long.toHexString(-value) : "0x" + Long.toHexString(value);
    }

    /** "WRONG where it begins, at its - if it has one" */
    private static void beginsAtItsMinus() {
        Bench bench = Bench.of(EIGHT);
        bench.dueWrongProgram(3, "s1 -33;");
        bench.dueWrongProgram(3, "s1 - 33;");
        bench.dueWrongProgram(3, "s1 -\n\n0x21;");
        bench.dueWrongProgram(3, "u1 -1;");
        bench.dueWrongProgram(3, "p1 - 33 $");
        bench.dueWrongProgram(5, "word - 1;");
        bench.dueWords("63 63", "s1 - \n1; s1 -\n0x1;");
    }

    /** "-0 is 0" */
    private static void minusZero() {
        Bench bench = Bench.of(EIGHT);
        bench.dueWords("0 64 128 0", "s1 -0; u1 -0; p1 -0; word -0;");
        bench.dueWords("0 64 128 0", "s1 -0x0; u1 -0x00000000; p1 - 0; word -0000000000;");
        bench.dueWrongProgram(2, "r -0;");
    }

    /** "DIGITS, at most 10" */
    private static void tenDigits() {
        Bench bench = Bench.of(EIGHT);
        bench.dueWords("5 69 133 5", "s1 0000000005; u1 0000000005; p1 0000000005; word 0000000005;");
        bench.dueWords("59 187", "s1 -0000000005; p1 -0000000005;");
        bench.dueWrongProgram(3, "s1 9999999999;");
        bench.dueWrongProgram(3, "u1 9999999999;");
        bench.dueWrongProgram(3, "p1 -9999999999;");
        bench.dueWrongProgram(5, "word 9999999999;");
        // 2 ** 32 and more, of which the lowest bits are a number that the operand can be.
        bench.dueWrongProgram(3, "u1 4294967301;");
        bench.dueWrongProgram(3, "s1 -4294967301;");
        bench.dueWrongProgram(5, "word 4294967301;");
        Bench wide = Bench.of("width 32; op u1 x:u 32 = x;");
        wide.dueWords("-1 -1 0", "u1 4294967295; word 4294967295; word 0000000000;");
        wide.dueWrongProgram(3, "u1 4294967296;");
        wide.dueWrongProgram(5, "word 4294967296;");
        wide.dueWrongProgram(3, "u1 8589934591;");
    }

    /** "DIGITS of more than 10 are WRONG themselves" */
    private static void moreThanTenDigits() {
        Bench bench = Bench.of(EIGHT);
        for (int zeros : new int[] {10, 11, 31, 32, 60}) {
            String digits = "0".repeat(zeros) + "5";
            bench.dueWrongProgram(3, "s1 " + digits + ";");
            bench.dueWrongProgram(4, "s1 -" + digits + ";");
            bench.dueWrongProgram(3, "u1 " + digits + ";");
            bench.dueWrongProgram(5, "u1 - " + digits + ";");
            bench.dueWrongProgram(4, "p1 -" + digits + ";");
            bench.dueWrongProgram(5, "word " + digits + ";");
            bench.dueWrongProgram(6, "word -" + digits + ";");
        }
        bench.dueWrongProgram(4, "u1 -00000000000;");
        // 2 ** 64 and 5: a long holds 5 of it.
        bench.dueWrongProgram(3, "u1 18446744073709551621;");
        bench.dueWrongProgram(4, "s1 -18446744073709551621;");
        bench.dueWrongProgram(2, "r 00000000001;");
    }

    /** ["-"] (DIGITS .. | HEX), of places a label, too */
    private static void numbersAsTheyAreWritten() {
        Bench bench = Bench.of(EIGHT);
        for (String op : new String[] {"s1", "u1", "p1"}) {
            bench.dueWrongProgram(3, op + " ;");
            bench.dueWrongProgram(3, op + " ,1;");
            for (String key : new String[] {"width", "set", "op", "word", "u", "s", "p"}) {
                bench.dueWrongProgram(3, op + " " + key + ";");
                bench.dueWrongProgram(4, op + " -" + key + ";");
                bench.dueWrongProgram(5, "word " + key + ";");
            }
            bench.dueWrongProgram(4, op + " -;");
            bench.dueWrongProgram(4, op + " --1;");
            bench.dueWrongProgram(4, op + " -a; a:");
            bench.dueWrongProgram(5, op + " 1 1;");
            bench.dueWrongProgram(4, op + " 1-1;");
        }
        bench.dueWrongProgram(3, "s1 a; a:");
        bench.dueWrongProgram(3, "u1 a; a:");
        bench.dueWrongProgram(3, "u1 r1; r1:");
        bench.dueWords("129", "p1 a; a:");
        bench.dueWords("129", "p1 r1; r1:");
    }

    /** "of registers their names alone" */
    private static void registersByName() {
        Bench bench = Bench.of(EIGHT);
        bench.dueWords("192 193 194 195", "r r0; r r1; r r2; r r3;");
        for (String other : new String[] {"r4", "r9", "r10", "r", "R1", "r1_", "r_1", "rx", "r1x", "rr1", "a1", "1", "0x1", "-r1",
            "-1", "u", ";", "r4294967296", "r4294967297", "x"}) {
            bench.dueWrongProgram(2, "r " + other + ";");
        }
        bench.dueWrongProgram(2, "r a; a:");
        bench.dueWrongProgram(2, "r r9; r9:");
        bench.dueWrongProgram(5, "r r1 1;");
        bench.dueWrongProgram(4, "r r1-;");
        Bench all = Bench.of("width 8; set abcdefghij 6; op a x:abcdefghij = 01 x;");
        for (int number = 0; number < 64; number++) {
            all.dueWords(64 + number, "a abcdefghij" + number + ";");
        }
        all.dueWrongProgram(2, "a abcdefghij64;");
        all.dueWrongProgram(2, "a abcdefghij99;");
        all.dueWrongProgram(2, "a abcdefghij;");
        all.dueWrongProgram(2, "a abcdefghi63;");
        // A NAME has 12 letters: what is behind them is the next TOKEN.
        all.dueWrongProgram(14, "a abcdefghij630;");
        all.dueWrongProgram(2, "a abcdefghij063;");
    }

    /** "(no 0 before another digit)" */
    private static void noZeroBeforeAnotherDigit() {
        Bench bench = Bench.of("width 8; set r 6; op a x:r = 00 x;");
        bench.dueWords("0 1 10 20 30", "a r0; a r1; a r10; a r20; a r30;");
        for (String other : new String[] {"r00", "r01", "r09", "r010", "r000", "r0000000000"}) {
            bench.dueWrongProgram(2, "a " + other + ";");
        }
    }

    /** "NAME .. and a number behind it": the NAME may end with digits, and be the begin of another one. */
    private static void setsWithDigits() {
        Bench bench = Bench.of("width 16; set r 4; set r1 4; set r10 1; op a x:r, y:r1, z:r10 = x y z 0000000;");
        bench.dueWords(10 << 12 | 0 << 8 | 0 << 7, "a r10, r10, r100;");
        bench.dueWords(15 << 12 | 5 << 8 | 1 << 7, "a r15, r15, r101;");
        bench.dueWords(1 << 12 | 10 << 8 | 1 << 7, "a r1, r110, r101;");
        bench.dueWrongProgram(2, "a r16, r10, r100;");
        bench.dueWrongProgram(7, "a r10, r1, r100;");
        bench.dueWrongProgram(7, "a r10, r100, r100;");
        bench.dueWrongProgram(7, "a r10, r116, r100;");
        bench.dueWrongProgram(12, "a r10, r10, r10;");
        bench.dueWrongProgram(12, "a r10, r10, r102;");
    }
}
