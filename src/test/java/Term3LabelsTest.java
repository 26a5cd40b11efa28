/** Term 3: labels in V. The remark at each test quotes the words that it belongs to. */
public final class Term3LabelsTest {
    private static final String DESCRIPTION = "width 16; op j x:p 8 = 00000000 x; op n = 1111111100000000;"
            + "op two x:p 2, y:p 2 = 000011110000 x y;";
    private static final int N = 0xff00;

    public static void main(String[] args) {
        placeOfTheNextWord();
        lessThatOfTheWordWithIt();
        tooFarForEverySize();
        farthestInAProgram();
        behindAllTheRest();
        inTheirOrder();
        labelsThatAreNotThere();
        asManyAsCanBe();
        lastOfManyLabels();
        Bench.end();
    }

    /** "A label is the place of the next WORD (0 first)" */
    private static void placeOfTheNextWord() {
        Bench bench = Bench.of(DESCRIPTION);
        bench.dueWords("0", "a: j a;");
        bench.dueWords("0 0 0", "a: j a; b: j b; c: j c;");
        bench.dueWords("0", "a: b: c: j b;");
        bench.dueWords("2 1", "j end; j end; end:");
        bench.dueWords("1 7", "j a; a: word 7;");
        bench.dueWords(N + " 1 " + N, "n; j a; a: n;");
    }

    /** "as V its place less that of the WORD with it" */
    private static void lessThatOfTheWordWithIt() {
        Bench bench = Bench.of(DESCRIPTION);
        bench.dueWords("0 255 254 1", "a: j a; j a; j a; j b; b:");
        bench.dueWords("3 2 1 0 255", "j a; j a; j a; a: j a; j a;");
        // Of both operands the same WORD is the one with it.
        bench.dueWords(0b11110000_01_01, "two a, a; a:");
        bench.dueWords(N + " " + 0b11110000_11_01, "a: n; two a, b; b:");
        bench.dueWords(N + " " + N + " " + 0b11110000_00_10, "a: n; n; b: two b, a;");
    }

    /** "one that is .. too far, is WRONG": the farthest that is not, forwards and backwards. */
    private static void tooFarForEverySize() {
        for (int bits = 1; bits <= 10; bits++) {
            String description = "width 16; op j x:p " + bits + " = " + "0".repeat(16 - bits) + " x; op n = 1111111111111111;";
            int most = (1 << bits - 1) - 1;
            int least = 1 << bits - 1;
            dueForwards(description, most, true);
            dueForwards(description, most + 1, false);
            dueBackwards(description, least, bits, true);
            dueBackwards(description, least + 1, bits, false);
        }
    }

    private static void dueForwards(String description, int distance, boolean taken) {
        Bench bench = Bench.of(description);
        String program = distance == 0 ? "a:j a;" : "j a;" + "n;".repeat(distance - 1) + "a:";
        dueJump(bench, program, taken, program.indexOf("j a") + 2, 0, distance);
    }

    private static void dueBackwards(String description, int distance, int bits, boolean taken) {
        Bench bench = Bench.of(description);
        String program = "a:" + "n;".repeat(distance) + "j a;";
        dueJump(bench, program, taken, program.length() - 2, distance, (1 << bits) - distance);
    }

    private static void dueJump(Bench bench, String program, boolean taken, int label, int k, int word) {
        if (taken) {
            bench.assemble(program);
            Bench.due(word, bench.word(k), "word(" + k + ") of " + program);
        } else {
            bench.assemble(program);
            Bench.due(label, bench.wrong(), "wrong() after " + program);
            Bench.due(Bench.BOUNDS, bench.word(0), "word(0) after " + program);
        }
    }

    /** "At most 1,000 WORDS": no label is farther than from the first to behind the last of them. */
    private static void farthestInAProgram() {
        String description = "width 16; op j x:p 11 = 00000 x; op n = 1111111111111111;";
        Bench forwards = Bench.of(description);
        Bench.due(1000, forwards.assemble("j a;" + "n;".repeat(999) + "a:"), "1,000 words forwards");
        Bench.due(1000, forwards.word(0), "1,000 words forwards");
        Bench backwards = Bench.of(description);
        Bench.due(1000, backwards.assemble("a:" + "n;".repeat(999) + "j a;"), "999 words backwards");
        Bench.due(2048 - 999, backwards.word(999), "999 words backwards");
    }

    /** "Behind all the rest labels in V are looked at" */
    private static void behindAllTheRest() {
        Bench bench = Bench.of(DESCRIPTION);
        bench.dueWrongProgram(2, "j a; n;");
        bench.dueWrongProgram(7, "j a; n n;");
        bench.dueWrongProgram(8, "j a; n; x;");
        bench.dueWrongProgram(6, "j a; n");
        bench.dueWrongProgram(3, "j a");
        bench.dueWrongProgram(11, "j a; b: n; b: n;");
        bench.dueWrongProgram(12, "j a; word 1 1;");
        bench.dueWrongProgram(10, "j a; word 65536;");
        bench.dueWrongProgram(12, "two a, 0; n;$");
        // Too far, as is known when it is read; or not there, when there can be no more labels.
        bench.dueWrongProgram(16, "a: n; n; n; two a, 0;");
        bench.dueWrongProgram(24, "a: n; n; n; two a, 0; n n;");
        bench.dueWrongProgram(19, "a: n; n; n; two a, 4;");
        bench.dueWrongProgram(22, "a: n; n; n; two a, 0; a: n;");
        StringBuilder labels = new StringBuilder();
        for (int i = 0; i < 60; i++) {
            labels.append('l').append(i).append(':');
        }
        bench.dueWrongProgram(labels.length() + 2, labels + "j a;");
        bench.dueWrongProgram(labels.length() + 6, labels + "j a; n$");
        bench.dueWrongProgram(labels.length() + 5, labels + "j a; a: n;");
    }

    /** "in their order" */
    private static void inTheirOrder() {
        Bench bench = Bench.of(DESCRIPTION);
        bench.dueWrongProgram(2, "j a; j b;");
        bench.dueWrongProgram(7, "j a; j b; a:");
        bench.dueWrongProgram(2, "j a; j b; b:");
        bench.dueWrongProgram(4, "two a, b;");
        bench.dueWrongProgram(7, "two a, b; a:");
        bench.dueWrongProgram(4, "two a, b; b:");
        // One that is not there, and one that is too far, whichever comes first.
        bench.dueWrongProgram(4, "two a, b; n; a:");
        bench.dueWrongProgram(4, "two b, a; n; a:");
        bench.dueWrongProgram(7, "two 0, a; n; a: j b;");
        bench.dueWrongProgram(2, "j b; two 0, a; n; a:");
    }

    /** "one that is not there" */
    private static void labelsThatAreNotThere() {
        Bench bench = Bench.of(DESCRIPTION);
        bench.dueWords("1", "j a; a:");
        // Neither an op, nor a label of the program before, nor what only begins like one.
        for (String program : new String[] {"j n; n;", "j a; n;", "j ab; a:", "j a; ab: n;", "j A; a: n;", "j x; n;"}) {
            bench.dueWrongProgram(2, program);
        }
        bench.dueWrongProgram(14, "j abcdefghijklm; abcdefghijkl:");
    }

    /** Labels in V as many as a text can hold, of one op of six places. */
    private static void asManyAsCanBe() {
        String description = "width 8; op a b:p 1,c:p 1,d:p 1,e:p 1,f:p 1,g:p 1 = 00 b c d e f g;";
        String six = "a x,x,x,x,x,x;";
        Bench.of(description).dueWrongProgram(2, six.repeat(285));
        Bench near = Bench.of(description);
        // The label is the place of the last word but one, so the first label in V of the first word is too far.
        near.dueWrongProgram(2, six.repeat(283) + "x:" + six + six);
        Bench last = Bench.of(description);
        // All but the last one are right: 0 and -1 are what one bit can be.
        last.dueWrongProgram(28, "x:" + six + "a x,x,x,x,x,y;z:");
        last.dueWords("0 63", "x:" + six + six);
    }

    /** "Behind all the rest labels in V are looked at": so many of them that a text holds hardly more, up to the last one. */
    private static void lastOfManyLabels() {
        String description = "width 32; op a b:p 5,c:p 5,d:p 5,e:p 5,f:p 5,g:p 5 = 00 b c d e f g;";
        StringBuilder text = new StringBuilder();
        for (char label = 'a'; label < 'k'; label++) {
            String six = "a l,l,l,l,l,l;".replace('l', label);
            text.append(six.repeat(14)).append(label).append(':').append(six.repeat(14));
        }
        // These three words are 14, 15 and 16 behind the last label: the least that 5 bits can be is -16.
        String right = text + "a j,j,j,j,j,j;a j,j,j,j,j,j;a j,j,j,j,j,";
        Bench bench = Bench.of(description);
        Bench.due(283, bench.assemble(right + "j;"), "1,698 labels in V");
        Bench.due(sixOf(14), bench.word(0), "the first word of 1,698 labels in V");
        Bench.due(sixOf(-13), bench.word(279), "the last word of the last label");
        Bench.due(sixOf(-16), bench.word(282), "the last word of 1,698 labels in V");
        Bench.of(description).dueWrongProgram(right.length(), right + "z;");
        // The label i is 44 words before.
        Bench.of(description).dueWrongProgram(right.length(), right + "i;");
    }

    private static int sixOf(int distance) {
        int word = 0;
        for (int k = 0; k < 6; k++) {
            word = word << 5 | distance & 31;
        }
        return word;
    }
}
