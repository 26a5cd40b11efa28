/** Promise 3: describe; which texts are right is tested by the tests of terms 1 and 2. */
public final class Promise03DescribeTest {
    public static void main(String[] args) {
        howManyOps();
        theFirstOctetsOfWhatWasFed();
        endsOfN();
        nothingIsFedThen();
        noProgramThen();
        noDescriptionIfWrong();
        allStaysIfNIsRefused();
        nothingStaysOfTheOneBefore();
        Bench.end();
    }

    /** "how many ops" */
    private static void howManyOps() {
        StringBuilder text = new StringBuilder("width 8;");
        Bench.dueDescription(0, text.toString());
        for (int ops = 1; ops <= 60; ops++) {
            text.append("op a").append(ops).append('=').append(Integer.toBinaryString(256 + ops).substring(1)).append(';');
            Bench.dueDescription(ops, text.toString());
        }
    }

    /** "THE DESCRIPTION is the first n octets of what was fed": every n of 40. */
    private static void theFirstOctetsOfWhatWasFed() {
        String text = "width 8; op a = 00000000; set r 3;\n";
        for (int n = 0; n <= 40; n++) {
            Bench bench = new Bench();
            bench.feed(text);
            // Behind the last letter there are octets 0, and these are wrong.
            boolean right = n == 8 || n == 9 || n == 25 || n == 26 || n == 34 || n == 35;
            Bench.due(right ? n < 25 ? "0" : "1" : Bench.ARGUMENT, bench.describe(n), "describe(" + n + ")");
            Bench.due(right && n >= 34 ? 1 : 0, bench.count(1), "count(1) after describe(" + n + ")");
        }
        Bench cut = new Bench();
        cut.feed("width 16;");
        Bench.due(Bench.ARGUMENT, cut.describe(7), "describe(7) of width 16;");
        Bench.due(6, cut.wrong(), "wrong() after describe(7) of width 16;");
    }

    /** "IndexOutOfBoundsException: n is below 0, or above what was fed" */
    private static void endsOfN() {
        Bench bench = new Bench();
        dueRefused(bench, 0);
        bench.feed("width 8;            ");
        dueRefused(bench, 20);
        Bench.due(0, bench.describe(20), "describe(20) of 20");
        dueRefused(bench, 0);
        bench.feed("width 8;" + " ".repeat(3992));
        dueRefused(bench, 4000);
        Bench.due(0, bench.describe(4000), "describe(4000) of 4,000");
        Bench.due(Bench.ARGUMENT, bench.describe(0), "describe(0) of nothing");
        bench.feed("width 8;");
        Bench.due(Bench.ARGUMENT, bench.describe(0), "describe(0) of 20");
        Bench.due(0, bench.wrong(), "wrong() after describe(0) of 20");
    }

    private static void dueRefused(Bench bench, int fed) {
        for (int n : new int[] {-1, Integer.MIN_VALUE, fed + 1, fed + 20, 4001, Integer.MAX_VALUE}) {
            Bench.due(Bench.BOUNDS, bench.describe(n), "describe(" + n + ") of " + fed);
        }
        Bench.due(fed, bench.count(5), "count(5) after refused calls");
    }

    /** "what was fed (which is nothing then, WRONG or not)" */
    private static void nothingIsFedThen() {
        Bench bench = new Bench();
        bench.feed("width 8; and more than that");
        Bench.due(0, bench.describe(8), "describe(8)");
        Bench.due(0, bench.count(5), "count(5) after a right description");
        Bench.due(Bench.BOUNDS, bench.describe(8), "describe(8) again");
        bench.feed("width 9; and more than that");
        Bench.due(Bench.ARGUMENT, bench.describe(8), "describe(8), wrong");
        Bench.due(0, bench.count(5), "count(5) after a wrong description");
        Bench.due(Bench.BOUNDS, bench.describe(1), "describe(1) of nothing");
        bench.feed("\t");
        Bench.due(Bench.ARGUMENT, bench.describe(1), "describe(1), a forbidden letter");
        Bench.due(0, bench.count(5), "count(5) after a forbidden letter");
    }

    /** "there is no PROGRAM then" */
    private static void noProgramThen() {
        for (String text : new String[] {Bench.USUAL, "width 8;", "width 9;", "", "\t"}) {
            Bench bench = Bench.usual();
            bench.assemble("a: nop; nop;");
            bench.describe(text);
            Bench.due(0, bench.count(3), "count(3) after " + text);
            Bench.due(0, bench.count(4), "count(4) after " + text);
            Bench.due(Bench.BOUNDS, bench.word(0), "word(0) after " + text);
        }
    }

    /** "IllegalArgumentException: WRONG; there is no DESCRIPTION then." */
    private static void noDescriptionIfWrong() {
        for (String text : new String[] {"", "width 9;", "\t", "width 8; op a x:u 8 = x; op b = 00000000;", "width 8; op a"}) {
            Bench bench = Bench.usual();
            bench.line(0x1250);
            Bench.due(Bench.ARGUMENT, bench.describe(text), text);
            Bench.due("0 0 0 0 0 0", bench.counts(), "counts after " + text);
            Bench.due(Bench.STATE, bench.op(0), "op(0) after " + text);
            Bench.due(Bench.STATE, bench.operand(0x1250, 0), "operand(0x1250, 0) after " + text);
            Bench.due(Bench.STATE, bench.encode(3), "encode(3) after " + text);
            Bench.due(Bench.STATE, bench.text(0), "text(0) after " + text);
            Bench.due(Bench.STATE, bench.assemble(0), "assemble(0) after " + text);
            // The letters can be asked for until the next TEXT of a WORD is made.
            Bench.due(0x6164642072312c20L, bench.letters(0), "letters(0) after " + text);
            Bench.due(4, bench.describe(Bench.USUAL), "a right description after " + text);
            Bench.due("nop;", bench.line(0), "text(0) after a right description after " + text);
        }
    }

    /** "(all stays then)" */
    private static void allStaysIfNIsRefused() {
        Bench bench = Bench.usual();
        bench.assemble("a: nop; nop;");
        bench.feed("width 8;            ");
        dueRefused(bench, 20);
        Bench.due("16 1 4 2 1 20", bench.counts(), "counts after refused calls");
        Bench.due(0, bench.word(1), "word(1) after refused calls");
        Bench.due(0, bench.describe(20), "describe(20) after refused calls");
    }

    /** "THE DESCRIPTION is ..": that text alone, whatever was described before. */
    private static void nothingStaysOfTheOneBefore() {
        Bench bench = Bench.of("width 16; set r 6; set q 6; op a x:u 4, y:r = 111111 x y; op c = 0000000000000000;");
        bench.describe("width 8; set r 1; op a x:r, y:s 6 = 0 y x; op b x:u 7 = 1 x;");
        Bench.due(-1, bench.wrong(), "wrong() after the next description");
        Bench.due("8 1 2 0 0 0", bench.counts(), "counts of the next description");
        Bench.due("a r1, -32;", bench.line(0x41), "text(0x41) of the next description");
        Bench.due("b 127;", bench.line(0xff), "text(0xff) of the next description");
        Bench.due(0x41, bench.encode(0, 1, -32), "encode of the next description");
        Bench.due("a r1, -32;", bench.line(0xffffff41), "text(0xffffff41) of the next description");
        bench.describe("width 8; op c x:u 8 = x;");
        Bench.due("c 129;", bench.line(0x81), "text(0x81) of the third description");
        Bench.due(Bench.BOUNDS, bench.operand(0x81, 1), "operand 1 of the third description");
        Bench.due(Bench.ARGUMENT, bench.describe("width 8; op a x:u 8 = x; op d"), "a wrong description");
        Bench.due(2, bench.describe("width 8; op d = 00000000; op c = 00000001;"), "the fifth description");
        Bench.due(-1, bench.op(2), "op(2) of the fifth description");
    }
}
