/** Term 2: no WORD is of two ops. The remark at each test quotes the words that it belongs to. */
public final class Term2WordsOfTwoOpsTest {
    private static final int[] WIDTHS = {8, 16, 24, 32};

    public static void main(String[] args) {
        oneBitPartsThem();
        someWordOfOneBefore();
        everyPairOfPatterns();
        atThatSemicolon();
        anyOfThoseBefore();
        bitsAsFieldsSay();
        Bench.end();
    }

    /** "the NAME of an op of which some WORD would be a WORD of one before it, too": not if one bit is always other. */
    private static void oneBitPartsThem() {
        for (int width : WIDTHS) {
            for (int at = 0; at < width; at++) {
                String before = "0".repeat(at);
                String behind = "0".repeat(width - 1 - at);
                String first = "width " + width + "; op a = " + before + "0" + behind + ";";
                Bench bench = Bench.of(first + " op b = " + before + "1" + behind + ";");
                Bench.due(0, bench.op(0), "op(0) of " + first);
                Bench.due(1, bench.op(1 << width - 1 - at), "op of the bit " + at + " from the highest of " + first);
                Bench.dueWrongDescription(first.length() + 4, first + " op b = " + before + "0" + behind + ";");
            }
        }
    }

    /** "some WORD": one of them is enough. */
    private static void someWordOfOneBefore() {
        // The only WORD of both is 0x05.
        Bench.dueWrongDescription(33, "width 8; op a x:u 4 = 0000 x; op b y:u 4 = y 0101;");
        // All of the first, and all of the second.
        Bench.dueWrongDescription(29, "width 8; op a = 00000000; op b x:u 8 = x;");
        Bench.dueWrongDescription(28, "width 8; op a x:u 8 = x; op b = 11111111;");
        Bench.dueWrongDescription(28, "width 8; op a x:u 8 = x; op b y:s 8 = y;");
        Bench.dueWrongDescription(30, "width 32; op a x:u 32 = x; op b x:u 31 = 1 x;");
        Bench.dueDescription(1, "width 8; op a x:u 8 = x;");
        Bench.dueDescription(2, "width 8; op a x:u 7 = 0 x; op b x:u 7 = 1 x;");
        Bench.dueDescription(2, "width 32; op a x:u 31 = x 0; op b x:u 31 = x 1;");
    }

    /** "some WORD would be a WORD of one before it": every two patterns of three bits, by trying all their words. */
    private static void everyPairOfPatterns() {
        for (int one = 0; one < 27; one++) {
            for (int other = 0; other < 27; other++) {
                String first = "width 8; op a x:u 3" + pattern(one);
                String text = first + " op b x:u 3" + pattern(other);
                if (sharesWord(one, other)) {
                    Bench.dueWrongDescription(first.length() + 4, text);
                } else {
                    Bench.dueDescription(2, text);
                }
            }
        }
    }

    /** Three bits, each 0, 1 or a bit of x, and the other bits of x and zeros behind, as many of these as are needed. */
    private static String pattern(int code) {
        StringBuilder fields = new StringBuilder(" = ");
        int left = 3;
        for (int rest = code, i = 0; i < 3; i++, rest /= 3) {
            if (rest % 3 == 2) {
                left--;
                fields.append("x[").append(left).append(':').append(left).append("] ");
            } else {
                fields.append(rest % 3).append(' ');
            }
        }
        if (left > 0) {
            fields.append("x[").append(left - 1).append(":0] ");
        }
        return fields.append("0".repeat(5 - left)).append(';').toString();
    }

    private static boolean sharesWord(int one, int other) {
        for (int word = 0; word < 256; word++) {
            if (isOf(one, word) && isOf(other, word)) {
                return true;
            }
        }
        return false;
    }

    private static boolean isOf(int code, int word) {
        int left = 3;
        int rest = code;
        for (int i = 0; i < 3; i++) {
            if (rest % 3 == 2) {
                left--;
            } else if (rest % 3 != (word >> 7 - i & 1)) {
                return false;
            }
            rest /= 3;
        }
        return (word & (1 << 5 - left) - 1) == 0;
    }

    /** "then, at that ";" too, before what follows is read" */
    private static void atThatSemicolon() {
        String text = "width 8; op a = 00000000; op b = 00000000";
        Bench.dueWrongDescription(29, text + ";");
        Bench.dueWrongDescription(29, text + "; op $");
        for (String behind : new String[] {" ", " $", ";", " width 8;", " b = 00000000;", " 0", " 0x0", " set", " set r 9;", " op a"}) {
            Bench.dueWrongDescription(29, text + ";" + behind);
        }
        Bench.dueWrongDescription(29, text + "; op c = 00000000;");
        // What is wrong before that ";", or at it, comes first.
        Bench.dueWrongDescription(text.length(), text);
        Bench.dueWrongDescription(text.length() + 1, text + " $;");
        Bench.dueWrongDescription(text.length() + 1, text + " 0;");
        Bench.dueWrongDescription(text.length() - 1, text.substring(0, text.length() - 1) + ";");
        String nowhere = "width 8; op a = 00000000; op b x:u 1 = 00000000";
        Bench.dueWrongDescription(nowhere.length(), nowhere + ";");
    }

    /** "a WORD of one before it": whichever that is. */
    private static void anyOfThoseBefore() {
        StringBuilder ops = new StringBuilder("width 8;");
        for (int i = 0; i < 59; i++) {
            ops.append("op a").append(i).append('=').append(Integer.toBinaryString(256 + i).substring(1)).append(';');
        }
        for (int i = 0; i < 64; i++) {
            String text = ops + "op b=" + Integer.toBinaryString(256 + i).substring(1) + ";";
            if (i < 59) {
                Bench.dueWrongDescription(ops.length() + 3, text);
            } else {
                Bench.dueDescription(60, text);
            }
        }
        // Ops of the description before do not count.
        Bench bench = Bench.of("width 8; op a = 00000000; op b = 00000001;");
        Bench.due(1, bench.describe("width 8; op b = 00000000;"), "a word of an op of the description before");
    }

    /** "A WORD is of an op if all its bits 0 and 1 are as F say." */
    private static void bitsAsFieldsSay() {
        Bench bench = Bench.of("width 32; op a x:u 8, y:s 8 = 0110 x[7:4] 11110000 y x[3:0] 1001;");
        int word = 0b0110_1010_11110000_01100110_0101_1001;
        int operands = 0b0000_1111_00000000_11111111_1111_0000;
        Bench.due(0, bench.op(word), "a word of the op");
        for (int bit = 0; bit < 32; bit++) {
            Bench.due((operands >>> bit & 1) - 1, bench.op(word ^ 1 << bit), "the word with bit " + bit + " other");
        }
    }
}
