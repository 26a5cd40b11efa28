/** Promise 5: wrong. The remark at each test quotes the words that it belongs to. */
public final class Promise05WrongTest {
    public static void main(String[] args) {
        tellsTheLatestText();
        firstAndLastPlace();
        looksAtNoTextThatWasNotRead();
        otherCallsTellNothing();
        Bench.end();
    }

    /** "Where the latest TEXT was WRONG; -1 if it was not, or there was none" */
    private static void tellsTheLatestText() {
        Bench bench = new Bench();
        Bench.due(-1, bench.wrong(), "wrong() of a new object");
        bench.describe("width 9;");
        Bench.due(6, bench.wrong(), "wrong() after a wrong description");
        Bench.due(6, bench.wrong(), "wrong() again");
        bench.describe("width 8");
        Bench.due(7, bench.wrong(), "wrong() after the next wrong description");
        bench.describe(Bench.USUAL);
        Bench.due(-1, bench.wrong(), "wrong() after a description");
        bench.assemble("nop; nap;");
        Bench.due(5, bench.wrong(), "wrong() after a wrong program");
        bench.assemble("");
        Bench.due(-1, bench.wrong(), "wrong() after an empty program");
        bench.assemble("jmp a;");
        Bench.due(4, bench.wrong(), "wrong() after a label that is not there");
        bench.describe("width 8;");
        Bench.due(-1, bench.wrong(), "wrong() after a description behind a wrong program");
    }

    /** "Where": from 0 to how many letters there are, 4,000 at most. */
    private static void firstAndLastPlace() {
        Bench bench = new Bench();
        bench.describe("");
        Bench.due(0, bench.wrong(), "wrong() after an empty description");
        bench.describe(" ".repeat(4000));
        Bench.due(4000, bench.wrong(), "wrong() after 4,000 blanks");
        bench.describe(" ".repeat(3999) + "\t");
        Bench.due(3999, bench.wrong(), "wrong() after a forbidden letter at last");
        Bench last = Bench.usual();
        last.assemble(" ".repeat(3997) + "nop");
        Bench.due(4000, last.wrong(), "wrong() after a program that ends too early");
        last.assemble("$");
        Bench.due(0, last.wrong(), "wrong() after a program of one letter");
    }

    /** "(calls that throw for n, or without a DESCRIPTION, look at none)" */
    private static void looksAtNoTextThatWasNotRead() {
        Bench bench = new Bench();
        bench.describe("width 9;");
        bench.feed("width 8;");
        for (int n : new int[] {-1, 21, Integer.MIN_VALUE, Integer.MAX_VALUE}) {
            bench.describe(n);
            Bench.due(6, bench.wrong(), "wrong() after describe(" + n + ")");
            bench.assemble(n);
            Bench.due(6, bench.wrong(), "wrong() after assemble(" + n + ")");
        }
        bench.assemble(0);
        Bench.due(6, bench.wrong(), "wrong() after assemble(0) without a description");
        bench.assemble(20);
        Bench.due(6, bench.wrong(), "wrong() after assemble(20) without a description");
        Bench usual = Bench.usual();
        usual.feed("$");
        for (int n : new int[] {-1, 21}) {
            usual.describe(n);
            Bench.due(-1, usual.wrong(), "wrong() of a right text after describe(" + n + ")");
            usual.assemble(n);
            Bench.due(-1, usual.wrong(), "wrong() of a right text after assemble(" + n + ")");
        }
        Bench fresh = new Bench();
        fresh.feed("$");
        fresh.assemble(1);
        Bench.due(-1, fresh.wrong(), "wrong() of a new object after assemble(1)");
    }

    /** "the latest TEXT": other calls, refused or not, have none. */
    private static void otherCallsTellNothing() {
        Bench bench = Bench.usual();
        bench.assemble("nop; nap;");
        bench.feed("nop;");
        bench.word(0);
        bench.op(1);
        bench.operand(0, 0);
        bench.encode(1, 999);
        bench.encode(1, 1, 1);
        bench.line(0x1250);
        bench.letters(-1);
        bench.count(9);
        Bench.due(5, bench.wrong(), "wrong() after other calls");
    }
}
