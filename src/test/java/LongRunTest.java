/**
 * Long runs on one object, up to its 512 calls: several descriptions and programs one after the other, right and wrong ones,
 * texts up to 4,000 letters, with the other calls between them.
 */
public final class LongRunTest {
    private static final int MOST_LETTERS = 4000;

    /** Two descriptions that have names in common, which mean something else in each. */
    private static final String NARROW = "width 8; set r 2; op a x:r, y:s 4 = 01 y x; op b t:p 6 = 10 t; op r = 00000000;";
    private static final String WIDE = "width 32; set x 5; set r 6; op r a:x, b:r, t:p 20 = 1 t b[5:2] a b[1:0];"
            + "op b x:u 31 = 0 x;";

    private final Bench bench = new Bench();

    public static void main(String[] args) {
        new LongRunTest().fullTexts();
        new LongRunTest().wrongFullTexts();
        new LongRunTest().manyTexts();
        new LongRunTest().narrowAndWideInTurn();
        new LongRunTest().emptyTexts();
        Bench.end();
    }

    private void due(String want, String got, String what) {
        Bench.due(want, got, "call " + bench.calls() + ": " + what);
    }

    private void due(long want, String got, String what) {
        due(String.valueOf(want), got, what);
    }

    private void dueEnd() {
        due(Bench.MOST_CALLS, String.valueOf(bench.calls()), "the last call");
    }

    /** Blanks and ends of lines come into the text, so that it has 4,000 letters. */
    private static String full(String text, int at) {
        int more = MOST_LETTERS - text.length();
        return text.substring(0, at) + "\n".repeat(more / 2) + " ".repeat(more - more / 2) + text.substring(at);
    }

    /** 12 sets and 60 ops. */
    private static String largeDescription() {
        StringBuilder text = new StringBuilder("width 16;");
        for (char set = 'a'; set < 'm'; set++) {
            text.append("set r").append(set).append(" 3;");
        }
        for (int i = 0; i < 58; i++) {
            String code = Integer.toBinaryString(64 + i).substring(1);
            char set = (char) ('a' + i % 12);
            text.append("op o").append(i).append(" d:r").append(set).append(",i:s 7=").append(code).append("d i;");
        }
        return text + "op j t:p 10=111010t;op n=1110110000000000;";
    }

    /** The largest description and the largest program that there can be, and smaller ones behind them. */
    private void fullTexts() {
        String description = largeDescription();
        due(60, bench.describe(full(description, description.indexOf("op o30"))), "a description of 4,000 letters");
        due("16 12 60 0 0 0", bench.counts(), "counts of it");
        due("o57 rj7, -1;", bench.line(0b111001_111_1111111), "the text of its last op but two");
        String program = "top:o7 rh5,-64;" + "n;".repeat(498) + "mid: j top;" + "n;".repeat(499) + "j mid;end:";
        bench.feed(full(program, program.length() - 1));
        due(Bench.BOUNDS, bench.feed(0, 0, 0, 0, 0), "feed behind 4,000 octets");
        due(Bench.BOUNDS, bench.assemble(4001), "assemble(4001)");
        due(1000, bench.assemble(4000), "a program of 4,000 letters");
        due("16 12 60 1000 3 0", bench.counts(), "counts of it");
        due(0x1ec0, bench.word(0), "word(0)");
        due(0xec00, bench.word(498), "word(498)");
        due(0xea0d, bench.word(499), "word(499), -499");
        due(0xec00, bench.word(998), "word(998)");
        due(0xea0c, bench.word(999), "word(999), -500");
        due(Bench.BOUNDS, bench.word(1000), "word(1000)");
        due("o7 rh5, -64;", bench.line(0x1ec0), "text of word(0)");
        due("j -499;", bench.line(0xea0d), "text of word(499)");
        smallerTextsBehind();
        while (bench.calls() < Bench.MOST_CALLS) {
            due(0x65, bench.word(0), "word(0) of the last program");
        }
        dueEnd();
    }

    private void smallerTextsBehind() {
        due("wrong at 8", bench.words("n; j 3; m;"), "a wrong program");
        due("16 12 60 0 0 0", bench.counts(), "counts after it");
        due(Bench.BOUNDS, bench.word(0), "word(0) after it");
        due("wrong at 5", bench.words("n; j mid;"), "a label of the program before");
        due(0xe802 + " " + 0xec00, bench.words("j end; n; end:"), "a right program");
        due("16 12 60 2 1 0", bench.counts(), "counts of it");
        due(59, bench.op(0xec00), "op(0xec00)");
        due(-1, bench.op(0xec01), "op(0xec01)");
        due(0x1ec0, bench.encode(7, 5, -64), "encode");
        String wrong = "width 16; op a = 0000000000000001; op b x:u 1 = 000000000000000 x;";
        due(Bench.ARGUMENT, bench.describe(wrong), "a wrong description");
        due(38, bench.wrong(), "wrong() after it");
        due("0 0 0 0 0 0", bench.counts(), "counts after it");
        due(Bench.STATE, bench.op(0xec00), "op without a description");
        due(1, bench.describe("width 8; op a x:u 4 = 0110 x;"), "a small description");
        due("wrong at 0", bench.words("n;"), "an op of the first description");
        due("101", bench.words("a 5;"), "a small program");
        due("8 0 1 1 0 0", bench.counts(), "counts of it");
    }

    /** Texts of 4,000 letters that are wrong at their last letter, or behind it; what is not looked at stays fed. */
    private void wrongFullTexts() {
        String description = largeDescription();
        String wrong = full(description, description.length() - 1).substring(0, 3999) + "!";
        due(Bench.ARGUMENT, bench.describe(wrong), "a description that is wrong at its last letter");
        due(3999, bench.wrong(), "wrong() after it");
        due("0 0 0 0 0 0", bench.counts(), "counts after it");
        String right = full(description, 0);
        bench.feed(right);
        due(Bench.STATE, bench.assemble(4000), "assemble(4000) without a description");
        due(Bench.BOUNDS, bench.describe(-1), "describe(-1)");
        due(Bench.BOUNDS, bench.describe(4001), "describe(4001)");
        due(3999, bench.wrong(), "wrong() after calls that look at no text");
        due(4000, bench.count(5), "count(5) after them");
        due(60, bench.describe(4000), "describe(4000) of the same octets");
        due(-1, bench.wrong(), "wrong() after it");
        due("16 12 60 0 0 0", bench.counts(), "counts after it");
        due("15495", bench.words("o15 rd1, 7;"), "a program");
        due("o15 rd1, 7;", bench.line(15495), "the text of its word");
        due(15495, bench.encode(15, 1, 7), "its word again");
        due(7, bench.operand(15495, 1), "operand 1 of its word");
        while (bench.calls() < Bench.MOST_CALLS - 1) {
            due(0, bench.assemble(0), "assemble(0)");
        }
        due(0, bench.count(3), "count(3) of the last program, an empty one");
        dueEnd();
    }

    /** What each text answers, right ones and wrong ones in turn, twice: the second time nothing is left of the first. */
    private void manyTexts() {
        for (int time = 0; time < 2; time++) {
            describe("width 8;", "0", -1, "8 0 0 0 0 0");
            assemble("word 255; a: word -0;", "2", -1, "8 0 0 2 1 0");
            assemble("word 256;", Bench.ARGUMENT, 5, "8 0 0 0 0 0");
            describe(NARROW, "3", -1, "8 1 3 0 0 0");
            assemble("r: a r3, -8; b r; r;", "3", -1, "8 1 3 3 1 0");
            due(0b01_1000_11, bench.word(0), "word(0)");
            due(0b10_111111, bench.word(1), "word(1)");
            due(0, bench.word(2), "word(2)");
            due("a r3, -8;", bench.line(0b01_1000_11), "a text");
            assemble("r: a r4, -8; b r; r;", Bench.ARGUMENT, 5, "8 1 3 0 0 0");
            assemble("r: r: r;", Bench.ARGUMENT, 3, "8 1 3 0 0 0");
            assemble("b q; b r; r: r;", Bench.ARGUMENT, 2, "8 1 3 0 0 0");
            describe("width 8; set r 2; set r 3;", Bench.ARGUMENT, 22, "0 0 0 0 0 0");
            due(Bench.STATE, bench.assemble(0), "assemble(0)");
            describe("width 16; op a x:u 16 = x; op b", Bench.ARGUMENT, 31, "0 0 0 0 0 0");
            describe("width 16; op a x:u 16 = x[15:8] x[7:0];", "1", -1, "16 0 1 0 0 0");
            assemble("a 0xabcd; a 4660;", "2", -1, "16 0 1 2 0 0");
            due(0xabcd, bench.word(0), "word(0)");
            due(0x1234, bench.word(1), "word(1)");
            assemble("a 65536;", Bench.ARGUMENT, 2, "16 0 1 0 0 0");
            describe("width 16; op a x:u 16 = x[15:8] x[8:0];", Bench.ARGUMENT, 32, "0 0 0 0 0 0");
        }
    }

    private void describe(String text, String answer, int wrong, String counts) {
        due(answer, bench.describe(text), text);
        due(wrong, bench.wrong(), "wrong() after " + text);
        due(counts, bench.counts(), "counts after " + text);
    }

    private void assemble(String text, String answer, int wrong, String counts) {
        due(answer, bench.assemble(text), text);
        due(wrong, bench.wrong(), "wrong() after " + text);
        due(counts, bench.counts(), "counts after " + text);
    }

    /** One description after the other, as often as 512 calls let: each word means what the latest of them says. */
    private void narrowAndWideInTurn() {
        int rounds = 0;
        for (; bench.calls() + 60 < Bench.MOST_CALLS; rounds++) {
            due(3, bench.describe(NARROW), "the narrow description");
            due("a r1, 3;", bench.line(0x4d), "a text of it");
            due(0x4d, bench.encode(0, 1, 3), "a word of it");
            due(Bench.BOUNDS, bench.word(0), "no program yet");
            due("129 0", bench.words("b t; t: r;"), "a program of it");
            due(2, bench.describe(WIDE), "the wide description");
            due(Bench.BOUNDS, bench.word(0), "no program any more");
            due("b 77;", bench.line(0x4d), "a text of it");
            due(0x4d, bench.encode(1, 0x4d), "a word of it");
            due("r x31, r62, -1;", bench.line(0xfffffffe), "another text of it");
            int second = 0b1_00000000000000000001_0000_11111_11;
            due("-2 " + second, bench.words("r x31, r62, -1; r x31, r3, r; r:"), "a program of it");
            due(Bench.ARGUMENT, bench.describe("width 8; op a x:r = 00 x;"), "a set of the one before");
            due(16, bench.wrong(), "wrong() after it");
        }
        due("true", String.valueOf(rounds >= 8), "eight rounds at least: " + rounds);
    }

    /** The most texts that an object can have: each of them is empty. */
    private void emptyTexts() {
        for (int i = 0; i < 100; i++) {
            due(Bench.ARGUMENT, bench.describe(0), "describe(0)");
            due(0, bench.wrong(), "wrong() after describe(0)");
        }
        due(0, bench.describe("width 24;"), "a description");
        while (bench.calls() < Bench.MOST_CALLS - 2) {
            due(0, bench.assemble(0), "assemble(0)");
            due(-1, bench.wrong(), "wrong() after assemble(0)");
        }
        // "word 0x00000f;"
        due(14, bench.text(15), "text(15)");
        due(0x30303030663b0000L, bench.letters(1), "letters(1)");
        dueEnd();
    }
}
