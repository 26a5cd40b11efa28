/** Promise 4: assemble; which texts are right is tested by the tests of terms 1 and 3. */
public final class Promise04AssembleTest {
    public static void main(String[] args) {
        ordinary();
        howManyWords();
        theFirstOctetsOfWhatWasFed();
        endsOfN();
        nothingIsFedThen();
        noDescription();
        noProgramIfWrong();
        allStaysIfNIsRefused();
        nothingStaysOfTheOneBefore();
        Bench.end();
    }

    /** "THE PROGRAM likewise" */
    private static void ordinary() {
        Bench.usual().dueWords("4792 16227 64542 64543 0 65535 12039",
                "top: add r1, r2, r7;\nli r3, -5; end: jmp top; jmp end; nop; word 0xffff; li r0, 0x7f;");
        Bench.usual().dueWords("0 0", "nop;nop\n;");
        Bench.of("width 32; op a x:s 32 = x;").dueWords("-2147483648 2147483647 -1",
                "a -2147483648; a 0x7fffffff; word 0xffffffff;");
    }

    /** "how many WORDS" */
    private static void howManyWords() {
        for (int words : new int[] {0, 1, 2, 999, 1000}) {
            Bench bench = Bench.usual();
            Bench.due(words, bench.assemble("nop;".repeat(words)), words + " words");
            Bench.due(words, bench.count(3), "count(3) of " + words + " words");
        }
        Bench.due(1, Bench.usual().assemble("a: b: nop; c:"), "labels are no words");
    }

    /** "likewise": the first n octets of what was fed, every n of 20. */
    private static void theFirstOctetsOfWhatWasFed() {
        String text = "nop; word 0x1f; a:\n";
        String[] wrongs = {"-1", "0", "0", "3", "-1", "-1", "5", "5", "5", "9", "10", "11", "11", "13", "14", "-1", "-1", "16",
            "-1", "-1", "19"};
        for (int n = 0; n <= 20; n++) {
            Bench bench = Bench.usual();
            bench.feed(text);
            String answer = bench.assemble(n);
            Bench.due(wrongs[n], bench.wrong(), "wrong() after assemble(" + n + ") of " + text);
            if (wrongs[n].equals("-1")) {
                Bench.due(n < 4 ? 0 : n < 15 ? 1 : 2, answer, "assemble(" + n + ") of " + text);
                Bench.due(n < 18 ? 0 : 1, bench.count(4), "count(4) after assemble(" + n + ") of " + text);
            } else {
                Bench.due(Bench.ARGUMENT, answer, "assemble(" + n + ") of " + text);
            }
        }
    }

    /** "IndexOutOfBoundsException" likewise: n is below 0, or above what was fed. */
    private static void endsOfN() {
        Bench bench = Bench.usual();
        dueRefused(bench, 0);
        Bench.due(0, bench.assemble(0), "assemble(0) of nothing");
        bench.feed("nop; nop; nop; nop; ");
        dueRefused(bench, 20);
        Bench.due(4, bench.assemble(20), "assemble(20) of 20");
        dueRefused(bench, 0);
        bench.feed("nop;".repeat(1000));
        dueRefused(bench, 4000);
        Bench.due(1000, bench.assemble(4000), "assemble(4000) of 4,000");
        Bench.due("16 1 4 1000 0 0", bench.counts(), "counts after 4,000");
        bench.feed("nop;");
        Bench.due(0, bench.assemble(0), "assemble(0) of 20");
        Bench.due("16 1 4 0 0 0", bench.counts(), "counts after assemble(0) of 20");
    }

    private static void dueRefused(Bench bench, int fed) {
        for (int n : new int[] {-1, Integer.MIN_VALUE, fed + 1, fed + 20, 4001, Integer.MAX_VALUE}) {
            Bench.due(Bench.BOUNDS, bench.assemble(n), "assemble(" + n + ") of " + fed);
        }
        Bench.due(fed, bench.count(5), "count(5) after refused calls");
    }

    /** "likewise": what was fed is nothing then, WRONG or not. */
    private static void nothingIsFedThen() {
        Bench bench = Bench.usual();
        bench.feed("nop; nop; and more than that");
        Bench.due(2, bench.assemble(9), "assemble(9)");
        Bench.due(0, bench.count(5), "count(5) after a right program");
        Bench.due(Bench.BOUNDS, bench.assemble(9), "assemble(9) again");
        bench.feed("nop; nap; and more than that");
        Bench.due(Bench.ARGUMENT, bench.assemble(9), "assemble(9), wrong");
        Bench.due(0, bench.count(5), "count(5) after a wrong program");
        Bench.due(Bench.BOUNDS, bench.assemble(1), "assemble(1) of nothing");
    }

    /** "IllegalStateException: there is no DESCRIPTION (looked at behind n; all stays)." */
    private static void noDescription() {
        Bench bench = new Bench();
        Bench.due(Bench.STATE, bench.assemble(0), "assemble(0) of a new object");
        bench.feed("width 8;           \n");
        Bench.due(Bench.STATE, bench.assemble(0), "assemble(0) without a description");
        Bench.due(Bench.STATE, bench.assemble(20), "assemble(20) without a description");
        dueRefused(bench, 20);
        Bench.due(-1, bench.wrong(), "wrong() after them");
        Bench.due("0 0 0 0 0 20", bench.counts(), "counts after them");
        Bench.due(0, bench.describe(20), "describe(20) after them");
        Bench.due(0, bench.assemble(0), "assemble(0) with a description");
        bench.describe("width 9;");
        bench.feed("\t");
        Bench.due(Bench.STATE, bench.assemble(1), "assemble(1) after a wrong description");
        Bench.due(6, bench.wrong(), "wrong() after assemble(1)");
        Bench.due(20, bench.count(5), "count(5) after assemble(1)");
    }

    /** "IllegalArgumentException: WRONG; there is no PROGRAM then." */
    private static void noProgramIfWrong() {
        for (String text : new String[] {"nop; nap;", "\t", "nop", "a: b: nop; jmp c;", "nop; nop; nop; a: a:"}) {
            Bench bench = Bench.usual();
            bench.assemble("a: nop; li r3, -5;");
            bench.line(0x1250);
            Bench.due(Bench.ARGUMENT, bench.assemble(text), text);
            Bench.due("16 1 4 0 0 0", bench.counts(), "counts after " + text);
            Bench.due(Bench.BOUNDS, bench.word(0), "word(0) after " + text);
            Bench.due(0x6164642072312c20L, bench.letters(0), "letters(0) after " + text);
            // The description stays.
            Bench.due(1, bench.op(16227), "op(16227) after " + text);
            Bench.due(-5, bench.operand(16227, 1), "operand(16227, 1) after " + text);
            Bench.due(16227, bench.encode(1, 3, -5), "encode after " + text);
            Bench.due("li r3, -5;", bench.line(16227), "text after " + text);
            bench.dueWords("16227", "li r3, -5;");
        }
    }

    /** Promise 3, "likewise": all stays then. */
    private static void allStaysIfNIsRefused() {
        Bench bench = Bench.usual();
        bench.assemble("a: nop; li r3, -5;");
        bench.feed("nop; nop; nop; nop; ");
        dueRefused(bench, 20);
        Bench.due("16 1 4 2 1 20", bench.counts(), "counts after refused calls");
        Bench.due(16227, bench.word(1), "word(1) after refused calls");
        Bench.due(4, bench.assemble(20), "assemble(20) after refused calls");
    }

    /** "THE PROGRAM": that text alone, whatever was assembled before. */
    private static void nothingStaysOfTheOneBefore() {
        Bench bench = Bench.usual();
        bench.assemble("a: b: li r3, -5; li r3, -5; li r3, -5;");
        bench.dueWords("0", "nop;");
        Bench.due("16 1 4 1 0 0", bench.counts(), "counts of the next program");
        Bench.due(Bench.BOUNDS, bench.word(1), "word(1) of the next program");
        bench.dueWrongProgram(4, "jmp a; b: nop;");
        bench.dueWords("32769 32768", "jmp a; a: jmp a;");
        bench.dueWords("", "");
        Bench.due("16 1 4 0 0 0", bench.counts(), "counts of an empty program");
    }
}
