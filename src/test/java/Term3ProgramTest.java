/** Term 3: A PROGRAM, its form and how much it may hold. The remark at each test quotes the words that it belongs to. */
public final class Term3ProgramTest {
    private static final String DESCRIPTION = "width 16; set r 3;"
            + "op n = 0000000000000000; op b x:r, y:p 4 = 1 x y 00000000;";
    private static final String PROGRAM = "a: n; b r1, -1; word 0x1f; c: b r2, a;";

    public static void main(String[] args) {
        cutBehindEveryToken();
        noTokenForAnother();
        emptyProgram();
        namesThatAreNoOps();
        asManyValuesAsOperands();
        wordsAsTheyAre();
        thousandWords();
        thousandAndFirstWord();
        sixtyLabels();
        Bench.end();
    }

    /** The grammar: a program may end behind ":" and ";"; else its end is wrong, or the NAME that is no op. */
    private static void cutBehindEveryToken() {
        Parts parts = new Parts(PROGRAM);
        int words = 0;
        for (int i = 0; i < parts.size(); i++) {
            String text = parts.cutBehind(i);
            words += parts.is(i, ";") ? 1 : 0;
            if (parts.is(i, ";") || parts.is(i, ":")) {
                Bench.due(words, Bench.of(DESCRIPTION).assemble(text), text);
            } else {
                Bench.of(DESCRIPTION).dueWrongProgram(parts.is(i + 1, ":") ? parts.start(i) : parts.end(i), text);
            }
        }
        Bench.of(DESCRIPTION).dueWords("0 40704 31 44288", PROGRAM);
    }

    /** The grammar: what can not stand for a token is wrong where that token would begin. */
    private static void noTokenForAnother() {
        Parts parts = new Parts(PROGRAM);
        for (int i = 0; i < parts.size(); i++) {
            // A NAME that is no op is wrong itself if there is no ":" behind it.
            int at = parts.start(parts.is(i, ":") ? i - 1 : i);
            Bench.of(DESCRIPTION).dueWrongProgram(at, parts.withoutSense(i));
        }
        Bench bench = Bench.of(DESCRIPTION);
        bench.dueWrongProgram(0, ";");
        bench.dueWrongProgram(2, "n;;");
        bench.dueWrongProgram(2, "n n;");
        bench.dueWrongProgram(5, "b r1 -1;");
        bench.dueWrongProgram(6, "word 1, 2;");
        bench.dueWrongProgram(2, "a:: n;");
        bench.dueWrongProgram(0, ": n;");
        bench.dueWrongProgram(0, "5: n;");
        bench.dueWrongProgram(0, "0x5: n;");
        bench.dueWrongProgram(0, "set r 3;");
        bench.dueWrongProgram(0, "op n = 0;");
        bench.dueWrongProgram(0, "width 8;");
        bench.dueWrongProgram(4, "word: n;");
    }

    /** {..}: none of them, or labels alone. */
    private static void emptyProgram() {
        Bench bench = Bench.of(DESCRIPTION);
        bench.dueWords("", "");
        bench.dueWords("", " \n");
        bench.dueWords("", "a:");
        Bench.due("16 1 2 0 1 0", bench.counts(), "counts of a label alone");
        Bench none = Bench.of("width 8;");
        none.dueWords("7", "a: word 7;");
        none.dueWrongProgram(0, "a;");
    }

    /** "(a NAME without : behind it that is no op is WRONG itself)" */
    private static void namesThatAreNoOps() {
        Bench bench = Bench.of(DESCRIPTION);
        for (String behind : new String[] {"", ";", " 1;", " $", " x:", ",", " n;", "= 1;", " ;a:"}) {
            bench.dueWrongProgram(0, "a" + behind);
        }
        for (String other : new String[] {"N", "nn", "n_", "r", "r1", "x", "y", "abcdefghijkl"}) {
            bench.dueWrongProgram(3, "n; " + other + ";");
        }
        bench.dueWrongProgram(6, "a: n; a;");
        // An op may stand, so that what is behind it is wrong; with ":" it is a label.
        bench.dueWrongProgram(1, "n$");
        bench.dueWrongProgram(1, "n");
        bench.dueWords("0", "n: n;");
        bench.dueWords("0", "b: n;");
        bench.dueWords("0", "n\n : n;");
    }

    /** "with as many V as operands" */
    private static void asManyValuesAsOperands() {
        for (int operands = 0; operands <= 6; operands++) {
            StringBuilder head = new StringBuilder("width 8; op a");
            StringBuilder fields = new StringBuilder(" = ");
            for (int k = 0; k < operands; k++) {
                head.append(k == 0 ? " " : ", ").append("x").append(k).append(":u 1");
                fields.append("x").append(k).append(' ');
            }
            Bench bench = Bench.of(head.toString() + fields + "0".repeat(8 - operands) + ";");
            for (int values = 0; values <= 7; values++) {
                dueValues(bench, operands, values);
            }
        }
    }

    private static void dueValues(Bench bench, int operands, int values) {
        String program = "a" + ",1".repeat(values).replaceFirst(",", " ") + ";";
        if (values == operands) {
            bench.dueWords(0xff00 >> operands & 0xff, program);
        } else if (values < operands) {
            bench.dueWrongProgram(program.length() - 1, program);
        } else {
            // "a " and then each V with what is behind it: the comma behind the last one that may stand.
            bench.dueWrongProgram(operands == 0 ? 2 : 1 + 2 * operands, program);
        }
    }

    /** "WORDS as they are (V 0 to 2 ** W - 1)" */
    private static void wordsAsTheyAre() {
        for (int width = 8; width <= 32; width += 8) {
            long most = (1L << width) - 1;
            Bench bench = Bench.of("width " + width + "; op a x:p " + width + " = x;");
            bench.dueWords("0 0 0 0 1", "word 0; word -0; word 0x0; word -0x0; word 1;");
            bench.dueWords((int) most + " " + (int) most, "word " + most + "; word 0x" + Long.toHexString(most) + ";");
            bench.dueWrongProgram(5, "word " + (most + 1) + ";");
            bench.dueWrongProgram(5, "word -1;");
            bench.dueWrongProgram(5, "word -0x1;");
            bench.dueWrongProgram(5, "word -" + most + ";");
            bench.dueWrongProgram(5, "word 9999999999;");
            if (width < 32) {
                bench.dueWrongProgram(5, "word 0x" + Long.toHexString(most + 1) + ";");
            }
            // Neither a label nor a register is a number.
            bench.dueWrongProgram(8, "b: word b;");
            bench.dueWrongProgram(5, "word b; b:");
            bench.dueWrongProgram(5, "word ;");
        }
        Bench.of(DESCRIPTION).dueWrongProgram(5, "word r1;");
    }

    /** "At most 1,000 WORDS" */
    private static void thousandWords() {
        Bench bench = Bench.of("width 8; op a x:u 4 = 0000 x; op z = 11111111;");
        Bench.due(1000, bench.assemble("a 1;" + "z;".repeat(998) + "word 7;"), "1,000 words");
        Bench.due(1, bench.word(0), "word(0) of 1,000");
        Bench.due(255, bench.word(1), "word(1) of 1,000");
        Bench.due(255, bench.word(998), "word(998) of 1,000");
        Bench.due(7, bench.word(999), "word(999) of 1,000");
        Bench.due(Bench.BOUNDS, bench.word(1000), "word(1000) of 1,000");
        Bench.due("8 0 2 1000 0 0", bench.counts(), "counts of 1,000 words");
        // Labels are no words.
        Bench labels = Bench.of("width 8; op z = 11111111;");
        Bench.due(1000, labels.assemble("a:" + "z;".repeat(1000) + "b: z: c:"), "1,000 words and labels");
        Bench.due("8 0 1 1000 4 0", labels.counts(), "counts of 1,000 words and labels");
    }

    /** "(the NAME of one more is WRONG)" */
    private static void thousandAndFirstWord() {
        String full = "z;".repeat(1000);
        for (String more : new String[] {" z;", " z", " z $", " word 5;", " word", " word z;", " y;"}) {
            Bench.of("width 8; op z = 11111111;").dueWrongProgram(2001, full + more);
        }
        Bench.of("width 8; op z = 11111111;").dueWrongProgram(2004, full + " a: z;");
        Bench.of("width 8; op z = 11111111;").dueWrongProgram(2001, full + " z; z; z;");
    }

    /** "60 labels (likewise; one that is there is WRONG)" */
    private static void sixtyLabels() {
        StringBuilder labels = new StringBuilder();
        for (int i = 0; i < 60; i++) {
            labels.append('l').append(i).append(':');
        }
        String description = "width 8; op a x:p 7 = 0 x; op z = 11111111;";
        Bench bench = Bench.of(description);
        bench.dueWords("255 127 126", labels + "z; a l0; a l59;");
        Bench.due("8 0 2 3 60 0", bench.counts(), "counts of 60 labels");
        Bench.of(description).dueWrongProgram(labels.length() + 1, labels + " m:");
        Bench.of(description).dueWrongProgram(labels.length() + 4, labels + " z; m: $");
        Bench.of(description).dueWrongProgram(labels.length() + 1, labels + " l59: z;");
        Bench.of(description).dueWrongProgram(labels.length() + 1, labels + " m;");
        bench.dueWrongProgram(2, "a:a:");
        bench.dueWrongProgram(3, "a: a: z;");
        bench.dueWrongProgram(9, "a: b: z; a: z;");
        bench.dueWrongProgram(9, "a: b: z; b: z;");
        bench.dueWords("255", "a: A: aa: a1: a_: z;");
        // Labels of the program before are not there.
        bench.dueWords("255", "a: b: z;");
        Bench.due(2, bench.count(4), "count(4) of the next program");
    }
}
