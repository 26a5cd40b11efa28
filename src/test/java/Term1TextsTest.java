/** Term 1: TEXTS. The remark at each test quotes the words that it belongs to. */
public final class Term1TextsTest {
    private static final String SIGNS = "=;,:[]-";

    public static void main(String[] args) {
        everyOctetIsTakenOrForbidden();
        everyOctetAsTheFirstOne();
        forbiddenLettersComeBeforeAnythingElse();
        lettersBehindTheTextAreNotLookedAt();
        fullDescription();
        fullProgram();
        blanksAndEndsOfLinesPartTokens();
        otherTokensPartThemselves();
        firstLettersOfNames();
        laterLettersOfNames();
        namesOfTwelveLetters();
        lettersOfDigits();
        digitsOfThirtyTwo();
        lettersOfHex();
        hexOfEight();
        hexOfNone();
        lettersOfNoToken();
        firstTokenThatCanNotStand();
        theEnd();
        Bench.end();
    }

    private static boolean isDigit(int letter) {
        return letter >= '0' && letter <= '9';
    }

    private static boolean beginsName(int letter) {
        return letter >= 'a' && letter <= 'z' || letter >= 'A' && letter <= 'Z' || letter == '_';
    }

    private static boolean isHexDigit(int letter) {
        return isDigit(letter) || letter >= 'a' && letter <= 'f';
    }

    /** "letters 10, 32..126 (another one: WRONG at it" */
    private static void everyOctetIsTakenOrForbidden() {
        for (int octet = 0; octet < 256; octet++) {
            boolean taken = octet == 10 || octet >= 32 && octet <= 126;
            // Both texts are wrong before the octet, too: that tells a forbidden letter from one that is only out of place.
            Bench.dueWrongDescription(taken ? 6 : 8, "width 9;" + (char) octet);
            Bench.usual().dueWrongProgram(taken ? 0 : 3, "no;" + (char) octet);
        }
    }

    /** "WRONG at it": at 0, too, where of all letters a text can begin with blanks and ends of lines alone. */
    private static void everyOctetAsTheFirstOne() {
        for (int octet = 0; octet < 256; octet++) {
            String first = String.valueOf((char) octet);
            if (octet == 10 || octet == 32) {
                Bench.dueDescription(0, first + "width 8;");
                Bench.usual().dueWords("", first);
                Bench.usual().dueWords("0", first + "nop;");
            } else {
                Bench.dueWrongDescription(0, first);
                Bench.dueWrongDescription(0, first + "width 8;");
                Bench.usual().dueWrongProgram(0, first);
                Bench.usual().dueWrongProgram(0, first + "nop;");
            }
        }
        // Of several forbidden ones the first.
        Bench.dueWrongDescription(0, "\u0080\u0000\u00ff");
        Bench.dueWrongDescription(8, "width 8;\u0080\u0000\u00ff");
        Bench.usual().dueWrongProgram(0, "\u0080\u0000\u00ff");
    }

    /** "WRONG at it, before anything else" */
    private static void forbiddenLettersComeBeforeAnythingElse() {
        Bench.dueWrongDescription(0, "\twidth 8;");
        Bench.dueWrongDescription(0, "\t");
        Bench.dueWrongDescription(7, "width 8\t;\r");
        Bench.dueWrongDescription(42, "width 8; op a = 00000000; op b = 00000000;\u007f");
        Bench.usual().dueWrongProgram(0, "\u0000");
        Bench.usual().dueWrongProgram(4, "nop;\u001f nop;\u0080");
        Bench.usual().dueWrongProgram(12, "jmp nowhere;\u000b");
        Bench.usual().dueWrongProgram(20, "li r1, 999; nop nop;\u00ff");
    }

    /** "up to 4,000", of which a text may be fewer than were fed. */
    private static void lettersBehindTheTextAreNotLookedAt() {
        Bench bench = new Bench();
        bench.feed("width 8;\t");
        Bench.due(0, bench.describe(8), "describe(8) before a forbidden letter");
        bench.feed("word 0x1\t");
        Bench.due(Bench.ARGUMENT, bench.assemble(9), "assemble(9) with a forbidden letter");
        Bench.due(8, bench.wrong(), "wrong() after assemble(9)");
        bench.feed("word 0x1;\t");
        Bench.due(1, bench.assemble(9), "assemble(9) before a forbidden letter");
    }

    /** "up to 4,000": a description of all of them. */
    private static void fullDescription() {
        String head = "width 8;" + " ".repeat(3975);
        Bench.dueDescription(1, head + "op a = 00000000 ;");
        Bench.dueWrongDescription(3999, head + "op a = 00000000 $");
        Bench.dueWrongDescription(3999, head + "op a = 00000000;\t");
        Bench.dueWrongDescription(4000, head + "op a = 00000000  ");
        Bench.dueWrongDescription(4000, "width 8;" + "\n".repeat(3990) + "op");
        Bench.dueWrongDescription(0, ";".repeat(4000));
        Bench.dueWrongDescription(4000, " ".repeat(4000));
    }

    /** "up to 4,000": a program of all of them. */
    private static void fullProgram() {
        String head = "nop;" + " ".repeat(3991);
        Bench full = Bench.usual();
        Bench.due(2, full.assemble(head + "nop ;"), "a program of 4,000 letters");
        Bench.usual().dueWrongProgram(3999, head + "nop $");
        Bench.usual().dueWrongProgram(3999, head + "nop;\t");
        Bench.usual().dueWrongProgram(4000, head + "nop  ");
        Bench.due(0, Bench.usual().assemble("\n".repeat(4000)), "4,000 ends of lines");
        Bench.usual().dueWrongProgram(3999, " ".repeat(3999) + "a");
    }

    /** "Blanks and ends of LINES part TOKENS" */
    private static void blanksAndEndsOfLinesPartTokens() {
        Bench.dueDescription(1, "\n\n width\n8\n;\nop\na\nx\n:\nu\n8\n=\nx\n[\n7\n:\n0\n]\n;\n");
        Bench.dueDescription(1, "  width  8  ;  op  a  x  :  u  8  =  x  [  7  :  0  ]  ;  ");
        Bench.usual().dueWords("0 16227", "\nnop\n;\n a \n:\nli\nr3\n,\n-\n5\n;\n");
        for (String parting : new String[] {" ", "\n"}) {
            Bench.dueWrongDescription(0, "wid" + parting + "th 8;");
            Bench.dueWrongDescription(6, "width 1" + parting + "6;");
            Bench.dueWrongDescription(16, "width 8; op a" + parting + "b = 00000000;");
            Bench.usual().dueWrongProgram(0, "no" + parting + "p;");
            Bench.usual().dueWrongProgram(7, "word 0" + parting + "x1;");
            Bench.usual().dueWrongProgram(9, "word 0x1" + parting + "1;");
            Bench.usual().dueWrongProgram(4, "add r" + parting + "1, r1, r1;");
        }
    }

    /** "as long as can be": where no blank parts them, a TOKEN ends where no letter of it comes any more. */
    private static void otherTokensPartThemselves() {
        Bench.dueDescription(1, "width 8;set r 3;op a x:r,y:u 1=0000y[0:0]x;");
        Bench.dueDescription(1, "width 8;op a x:u 4=0000x;");
        Bench.dueDescription(1, "width 8;op a x:u 4=x[3:0]0000;");
        Bench.usual().dueWords("4792 16227 0", "a:add r1,r2,r7;b:li r3,-5;c:nop;");
        Bench.dueWrongDescription(0, "width8;");
        Bench.dueWrongDescription(9, "width 8; opa = 00000000;");
        Bench.dueWrongDescription(9, "width 8; setr 3;");
        Bench.dueWrongDescription(16, "width 8; op a x:u8 = x;");
        Bench.usual().dueWrongProgram(0, "nop1;");
        Bench.usual().dueWrongProgram(0, "wordx 1;");
    }

    /** "NAMES (a-z A-Z _" */
    private static void firstLettersOfNames() {
        for (char letter = 33; letter <= 126; letter++) {
            String text = "width 8; op " + letter + " = 00000000;";
            boolean key = letter == 'u' || letter == 's' || letter == 'p';
            if (beginsName(letter) && !key) {
                Bench.due(letter + ";", Bench.of(text).line(0), "the text of 0 of " + text);
            } else {
                Bench.dueWrongDescription(12, text);
            }
        }
    }

    /** "then 0-9 too" */
    private static void laterLettersOfNames() {
        for (char letter = 33; letter <= 126; letter++) {
            String text = "width 8; op a" + letter + " = 00000000;";
            if (beginsName(letter) || isDigit(letter)) {
                Bench.due("a" + letter + ";", Bench.of(text).line(0), "the text of 0 of " + text);
            } else {
                // Of "=" the second one is wrong.
                Bench.dueWrongDescription(letter == '=' ? 15 : 13, text);
            }
        }
    }

    /** "up to 12; what is behind is the next TOKEN" */
    private static void namesOfTwelveLetters() {
        Bench twelve = Bench.of("width 8; op abcdefghijkl = 00000000;");
        Bench.due("abcdefghijkl;", twelve.line(0), "an op of 12 letters");
        Bench.dueWrongDescription(26, "width 8; op abcdefghijklm = 00000000;");
        Bench.dueWrongDescription(24, "width 8; op abcdefghijkl0 = 00000000;");
        Bench.dueDescription(1, "width 8; op a abcdefghijkl:u 8 = abcdefghijkl;");
        Bench.dueWrongDescription(26, "width 8; op a abcdefghijklm:u 8 = m;");
        Bench behind = Bench.of("width 8; op abcdefghijklm:p 8 = m;");
        Bench.due("abcdefghijkl 5;", behind.line(5), "the operand m stands behind the op of 12 letters");
        behind.dueWords("5 1", "abcdefghijkl5;abcdefghijklabcdefghijkl;abcdefghijkl:");
        behind.dueWrongProgram(24, "abcdefghijklabcdefghijklm;");
        behind.dueWrongProgram(0, "Abcdefghijklm:");
    }

    /** "DIGITS (0-9" */
    private static void lettersOfDigits() {
        for (char letter = 33; letter <= 126; letter++) {
            String program = "word 1" + letter + ";";
            if (isDigit(letter)) {
                Bench.usual().dueWords(10 + letter - '0', program);
            } else {
                // Of ";" the second one is wrong.
                Bench.usual().dueWrongProgram(letter == ';' ? 7 : 6, program);
            }
        }
    }

    /** "DIGITS (.., up to 32)" */
    private static void digitsOfThirtyTwo() {
        String bits = "01".repeat(16);
        Bench.due(0x55555555, Bench.of("width 32; op a = " + bits + ";").encode(0), "32 digits");
        // 32 of them are one TOKEN, wrong for its last digit where it begins; the one behind them is the next TOKEN.
        Bench.dueWrongDescription(17, "width 32; op a = " + bits.substring(1) + "2;");
        Bench.dueWrongDescription(49, "width 32; op a = " + bits + "0;");
        Bench.dueWrongDescription(49, "width 32; op a = " + bits + bits + ";");
        Bench.dueWrongDescription(6, "width " + "0".repeat(31) + "8;");
        Bench.usual().dueWrongProgram(5, "word " + "0".repeat(32) + ";");
        Bench.usual().dueWrongProgram(5, "word " + "0".repeat(33) + ";");
    }

    /** "0x and up to 8 of 0-9 a-f" */
    private static void lettersOfHex() {
        for (char letter = 33; letter <= 126; letter++) {
            String first = "word 0x" + letter + ";";
            String second = "word 0x1" + letter + ";";
            if (isHexDigit(letter)) {
                int digit = Character.digit(letter, 16);
                Bench.usual().dueWords(digit + " " + (16 + digit), first + second);
            } else {
                // Without a digit that is 0, and a NAME which begins with x.
                Bench.usual().dueWrongProgram(6, first);
                Bench.usual().dueWrongProgram(letter == ';' ? 9 : 8, second);
            }
        }
        Bench.usual().dueWrongProgram(6, "word 0X1;");
        Bench.usual().dueWrongProgram(6, "word 1x1;");
        Bench.usual().dueWrongProgram(7, "word 00x1;");
    }

    /** "up to 8" */
    private static void hexOfEight() {
        Bench wide = Bench.of("width 32;");
        wide.dueWords("-1 -2147483648 1985229328 19088743", "word 0xffffffff; word 0x80000000; word 0x76543210; word 0x01234567;");
        wide.dueWords("-1985229329 -19088744", "word 0x89abcdef; word 0xfedcba98;");
        wide.dueWords("1 10", "word 0x00000001; word 0x0000000a;");
        wide.dueWrongProgram(15, "word 0x000000001;");
        wide.dueWrongProgram(15, "word 0x00000000a;");
        wide.dueWrongProgram(15, "word 0x0000000000000001;");
        wide.dueWrongProgram(15, "word 0x00000000x;");
    }

    /** "(at least one" */
    private static void hexOfNone() {
        Bench bench = Bench.usual();
        bench.dueWrongProgram(6, "word 0x;");
        bench.dueWrongProgram(6, "word 0x");
        bench.dueWrongProgram(6, "word 0x 1;");
        // The only digit is behind the text.
        bench.feed("word 0x1;");
        Bench.due(Bench.ARGUMENT, bench.assemble(7), "assemble(7) of word 0x1;");
        Bench.due(6, bench.wrong(), "wrong() after assemble(7) of word 0x1;");
        bench.feed("word 0x1;");
        Bench.due(Bench.ARGUMENT, bench.assemble(8), "assemble(8) of word 0x1;");
        Bench.due(8, bench.wrong(), "wrong() after assemble(8) of word 0x1;");
        // So 0x is the bit 0 and the operand x, unless a digit of HEX comes next.
        Bench.dueDescription(1, "width 8; op a x:u 7 = 0x;");
        Bench.dueDescription(1, "width 8; op a x:u 7 = 0x[6:0];");
        Bench.dueDescription(1, "width 8; op a xg:u 7 = 0xg;");
        Bench.dueDescription(1, "width 8; op a xa:u 6 = 00xa;");
        Bench.dueWrongDescription(23, "width 8; op a xa:u 7 = 0xa;");
        Bench.dueWrongDescription(23, "width 8; op a x0:u 7 = 0x0;");
    }

    /** "SIGNS = ; , : [ ] -": other letters are of no TOKEN, and wrong when they are reached. */
    private static void lettersOfNoToken() {
        for (char letter = 33; letter <= 126; letter++) {
            if (!beginsName(letter) && !isDigit(letter) && SIGNS.indexOf(letter) < 0) {
                Bench.dueWrongDescription(8, "width 8;" + letter);
                Bench.dueWrongDescription(20, "width 8; op a = 0000" + letter + "0000;");
                Bench.dueWrongDescription(6, "width 9;" + letter);
                Bench.usual().dueWrongProgram(4, "nop;" + letter);
                Bench.usual().dueWrongProgram(6, "li r1," + letter + "1;");
                Bench.usual().dueWrongProgram(0, "no;" + letter);
            }
        }
    }

    /** "WRONG is the first TOKEN that can not stand where it is" */
    private static void firstTokenThatCanNotStand() {
        Bench.dueWrongDescription(6, "width 9; set 9;");
        Bench.dueWrongDescription(15, "width 8; set r 9; set r 3; op");
        Bench.usual().dueWrongProgram(3, "li 1, 999; nop nop;");
        Bench.usual().dueWrongProgram(7, "li r1, 999; nop nop;");
        Bench.usual().dueWrongProgram(15, "li r1, 99; nop nop;");
    }

    /** "(the end: how many letters)" */
    private static void theEnd() {
        Bench.dueWrongDescription(0, "");
        Bench.dueWrongDescription(1, " ");
        Bench.dueWrongDescription(3, "\n \n");
        Bench.dueWrongDescription(5, "width");
        Bench.dueWrongDescription(7, "width 8");
        Bench.dueWrongDescription(10, "width 8 \n ");
        Bench.usual().dueWrongProgram(3, "nop");
        Bench.usual().dueWrongProgram(6, "nop \n ");
        Bench.usual().dueWrongProgram(5, "word ");
        Bench.usual().dueWords("", "");
        Bench.usual().dueWords("", " \n ");
    }
}
