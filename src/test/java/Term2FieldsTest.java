/** Term 2: the F of an op, and which bits they make. The remark at each test quotes the words that it belongs to. */
public final class Term2FieldsTest {
    private static final int[] WIDTHS = {8, 16, 24, 32};

    public static void main(String[] args) {
        digitsAreZeroOrOne();
        slicesOfEverySize();
        slicesOfRegistersAndOfThirtyTwoBits();
        slicesAsTheyAreWritten();
        highestBitsComeFirst();
        bitsThatStandTwice();
        moreBitsThanAWord();
        fewerBitsThanAWord();
        bitsThatStandNowhere();
        Bench.end();
    }

    private static String zeros(int size) {
        return "0".repeat(size);
    }

    /** "F: DIGITS, all 0 or 1" */
    private static void digitsAreZeroOrOne() {
        for (char digit = '0'; digit <= '9'; digit++) {
            for (int at = 0; at < 8; at++) {
                String bits = zeros(at) + digit + zeros(7 - at);
                String text = "width 8; op a = " + bits + ";";
                if (digit <= '1') {
                    Bench.due(Integer.parseInt(bits, 2), Bench.of(text).encode(0), text);
                } else {
                    Bench.dueWrongDescription(16, text);
                }
            }
        }
        Bench.dueWrongDescription(21, "width 8; op a = 0000 0002;");
        Bench.dueWrongDescription(16, "width 8; op a = 0x0;");
        Bench.dueWrongDescription(16, "width 8; op a = -0;");
    }

    /** "from the first one (below how many it has) down to the second one (not above the first)" */
    private static void slicesOfEverySize() {
        for (int size = 1; size <= 8; size++) {
            for (int first = 0; first <= 9; first++) {
                for (int second = 0; second <= 9; second++) {
                    dueSlice(size, first, second);
                }
            }
        }
    }

    private static void dueSlice(int size, int first, int second) {
        String head = "width 8; op a x:u " + size + " = x[";
        String slice = head + first + ":" + second + "] ";
        if (first >= size) {
            Bench.dueWrongDescription(head.length(), slice + ";");
        } else if (second > first) {
            Bench.dueWrongDescription(head.length() + 2, slice + ";");
        } else {
            String above = first + 1 < size ? "x[" + (size - 1) + ":" + (first + 1) + "] " : "";
            String below = second > 0 ? "x[" + (second - 1) + ":0] " : "";
            Bench bench = Bench.of(slice + above + below + zeros(8 - size) + ";");
            for (int bit = 0; bit < size; bit++) {
                int place = 7 - placeFromTheHighest(size, first, second, bit);
                Bench.due(1 << place, bench.encode(0, 1 << bit), slice + "bit " + bit);
                Bench.due(1 << bit, bench.operand(1 << place, 0), slice + "bit " + bit + " back");
            }
        }
    }

    /** Where a bit stands if the slice comes first, then what is above it, then what is below it. */
    private static int placeFromTheHighest(int size, int first, int second, int bit) {
        if (bit > first) {
            return first - second + 1 + (size - 1 - bit);
        }
        return bit >= second ? first - bit : size - 1 - bit;
    }

    /** "(below how many it has)" */
    private static void slicesOfRegistersAndOfThirtyTwoBits() {
        Bench.dueDescription(1, "width 8; set r 3; op a x:r = x[2:0] 00000;");
        Bench.dueWrongDescription(33, "width 8; set r 3; op a x:r = 0 x[3:0] 0000;");
        Bench.due(-1, Bench.of("width 32; op a x:u 32 = x[31:0];").encode(0, 4294967295L), "x[31:0]");
        Bench.dueWrongDescription(26, "width 32; op a x:u 32 = x[32:0];");
        Bench.dueWrongDescription(29, "width 32; op a x:u 32 = x[31:32];");
        Bench.due(1 << 31, Bench.of("width 32; op a x:s 32 = x[0:0] x[31:1];").encode(0, 1), "x[0:0] x[31:1]");
    }

    /** "[" N ":" N "]" */
    private static void slicesAsTheyAreWritten() {
        Bench.dueWrongDescription(24, "width 8; op a x:u 4 = x[:0] 0000;");
        Bench.dueWrongDescription(25, "width 8; op a x:u 4 = x[3] 0000;");
        Bench.dueWrongDescription(26, "width 8; op a x:u 4 = x[3:] 0000;");
        Bench.dueWrongDescription(28, "width 8; op a x:u 4 = x[3:0 0000;");
        Bench.dueWrongDescription(24, "width 8; op a x:u 4 = x[-3:0] 0000;");
        Bench.dueWrongDescription(26, "width 8; op a x:u 4 = x[3:-0] 0000;");
        Bench.dueWrongDescription(28, "width 8; op a x:u 4 = x[3:0][3:0] 0000;");
        Bench.dueWrongDescription(22, "width 8; op a x:u 4 = [3:0] 0000;");
        Bench.dueWrongDescription(26, "width 8; op a x:u 4 = 0000[3:0];");
    }

    /** "The highest bits of a WORD come first." */
    private static void highestBitsComeFirst() {
        for (int width : WIDTHS) {
            Bench bench = Bench.of("width " + width + "; op a x:u " + (width - 2) + " = 1 x 0;");
            Bench.due((int) (1L << width - 1), bench.encode(0, 0), "the first of " + width + " bits");
            Bench.due((int) (1L << width - 1) | 2, bench.encode(0, 1), "the last bit of x of " + width + " bits");
            Bench.due((int) (3L << width - 2), bench.encode(0, 1L << width - 3), "the first bit of x of " + width + " bits");
        }
        Bench order = Bench.of("width 16; op a x:u 4, y:u 4 = y 0011 x 0101;");
        Bench.due(0xa3c5, order.encode(0, 0xc, 0xa), "the order of F, not of operands");
    }

    /** "an F with which a bit of an operand would stand twice (where it begins)" */
    private static void bitsThatStandTwice() {
        for (int high = 0; high < 4; high++) {
            for (int low = 0; low <= high; low++) {
                for (int upper = 0; upper < 4; upper++) {
                    for (int lower = 0; lower <= upper; lower++) {
                        String head = "width 32; op a x:u 4 = x[" + high + ":" + low + "] ";
                        String text = head + "x[" + upper + ":" + lower + "]";
                        boolean twice = lower <= high && low <= upper;
                        // Where no bit stands twice only the end is wrong.
                        Bench.dueWrongDescription(twice ? head.length() : text.length(), text);
                    }
                }
            }
        }
        Bench.dueWrongDescription(24, "width 8; op a x:u 4 = x x;");
        Bench.dueWrongDescription(24, "width 8; op a x:u 4 = x x[0:0] 000;");
        Bench.dueWrongDescription(29, "width 8; op a x:u 4 = x[0:0] x 000;");
        Bench.dueWrongDescription(36, "width 8; op a x:u 4 = x[0:0] 000000 x[0:0];");
        Bench.dueWrongDescription(34, "width 32; op a x:u 4, y:u 4 = x y x;");
        // As many bits of one operand as of another are not the same bits.
        Bench.dueDescription(1, "width 8; op a x:u 4, y:u 4 = x[3:2] y[3:2] x[1:0] y[1:0];");
    }

    /** "or there would be more than W bits": an F, where it begins. */
    private static void moreBitsThanAWord() {
        for (int width : WIDTHS) {
            String head = "width " + width + "; op a x:u 2, y:u 1 = x ";
            Bench.dueDescription(1, head + zeros(width - 3) + " y;");
            Bench.dueDescription(1, head + "y " + zeros(width - 3) + ";");
            dueTooMany(head + "y ", zeros(width - 2));
            dueTooMany(head + "y " + zeros(width - 3), " 0");
            dueTooMany(head + "y " + zeros(width - 4), " 00");
            dueTooMany(head + zeros(width - 2), " y");
            dueTooMany(head + zeros(width - 2), " y[0:0]");
            String last = "width " + width + "; op a x:u 2 = " + zeros(width - 1);
            dueTooMany(last, " x");
            dueTooMany(last, " x[1:0]");
            dueTooMany(last + " x[1:1]", " x[0:0]");
        }
        Bench.dueWrongDescription(16, "width 8; op a = 000000000;");
        Bench.dueWrongDescription(17, "width 16; op a = 00000000000000000;");
        Bench.dueWrongDescription(17, "width 24; op a = 0000000000000000000000000;");
        // 32 digits are a TOKEN, so that the last one of 33 is an F by itself.
        Bench.dueWrongDescription(49, "width 32; op a = " + zeros(33) + ";");
        Bench.dueWrongDescription(31, "width 8; op a x:u 5, y:u 5 = x y;");
    }

    /** The last F is one too many; a blank may stand before it. */
    private static void dueTooMany(String right, String one) {
        int begin = right.length() + one.length() - one.trim().length();
        Bench.dueWrongDescription(begin, right + one + ";");
        Bench.dueWrongDescription(begin, right + one + " $");
    }

    /** "the last ";" of an op, if there are fewer" */
    private static void fewerBitsThanAWord() {
        for (int width : WIDTHS) {
            for (int bits = 0; bits < width; bits++) {
                String text = "width " + width + "; op a = " + zeros(bits);
                Bench.dueWrongDescription(text.length(), text + ";");
            }
            String withOperand = "width " + width + "; op a x:u 2 = x " + zeros(width - 3);
            Bench.dueWrongDescription(withOperand.length() + 1, withOperand + " ; op b = $");
        }
    }

    /** "or a bit of an operand stands nowhere" */
    private static void bitsThatStandNowhere() {
        String[] parts = {"x[3:1]", "x[2:0]", "x[3:2] x[0:0]", "x[3:3] x[1:0]", "x[3:3]", "x[0:0]", ""};
        int[] sizes = {3, 3, 3, 3, 1, 1, 0};
        for (int i = 0; i < parts.length; i++) {
            String text = "width 8; op a x:u 4 = " + parts[i] + " " + zeros(8 - sizes[i]);
            Bench.dueWrongDescription(text.length(), text + ";");
        }
        // Of each of six operands.
        String head = "width 8; op a a:u 1, b:s 1, c:p 1, d:u 1, e:u 1, f:u 1 =";
        String[] names = {" a", " b", " c", " d", " e", " f"};
        Bench.dueDescription(1, head + String.join("", names) + " 00;");
        for (String name : names) {
            String text = head + String.join("", names).replace(name, " 0") + " 00";
            Bench.dueWrongDescription(text.length(), text + ";");
        }
        String register = "width 8; set r 6; op a x:r = x[5:1] 000";
        Bench.dueWrongDescription(register.length(), register + ";");
    }
}
