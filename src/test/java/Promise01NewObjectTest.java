/** Promise 1: a new object. What it says of exceptions is tested by RefusedCallsTest. */
public final class Promise01NewObjectTest {
    public static void main(String[] args) {
        nothingIsThere();
        firstTextOfANewObject();
        objectsAreApart();
        fiveHundredAndTwelveCalls();
        Bench.end();
    }

    /** "No DESCRIPTION, no PROGRAM, nothing fed." */
    private static void nothingIsThere() {
        Bench bench = new Bench();
        Bench.due("0 0 0 0 0 0", bench.counts(), "new: counts");
        Bench.due(-1, bench.wrong(), "new: wrong()");
        Bench.due(Bench.BOUNDS, bench.word(0), "new: word(0)");
        Bench.due(Bench.STATE, bench.op(0), "new: op(0)");
        Bench.due(Bench.STATE, bench.operand(0, 0), "new: operand(0, 0)");
        Bench.due(Bench.STATE, bench.encode(0), "new: encode(0)");
        Bench.due(Bench.STATE, bench.text(0), "new: text(0)");
        Bench.due(Bench.BOUNDS, bench.letters(0), "new: letters(0)");
        Bench.due(Bench.BOUNDS, bench.describe(1), "new: describe(1)");
        Bench.due(Bench.BOUNDS, bench.assemble(1), "new: assemble(1)");
        Bench.due(Bench.STATE, bench.assemble(0), "new: assemble(0)");
        Bench.due(20, bench.feed(0, 0, 0, 0, 0), "new: feed");
    }

    /** "nothing fed": the empty text is a text, and wrong. */
    private static void firstTextOfANewObject() {
        Bench bench = new Bench();
        Bench.due(Bench.ARGUMENT, bench.describe(0), "new: describe(0)");
        Bench.due(0, bench.wrong(), "new: wrong() after describe(0)");
    }

    /** "A new object": whatever others were made and called before. */
    private static void objectsAreApart() {
        Bench first = Bench.usual();
        first.assemble("a: nop;");
        first.line(0x1250);
        first.feed("nop");
        Bench second = new Bench();
        Bench.due("0 0 0 0 0 0", second.counts(), "another object: counts");
        Bench.due(Bench.STATE, second.op(0), "another object: op(0)");
        Bench.due(Bench.BOUNDS, second.letters(0), "another object: letters(0)");
        second.describe("width 9;");
        Bench.due("16 1 4 1 1 20", first.counts(), "counts after calls of another object");
        Bench.due(-1, first.wrong(), "wrong() after calls of another object");
    }

    /** "An object is used for at most 512 calls": the last of them is answered as the first. */
    private static void fiveHundredAndTwelveCalls() {
        Bench bench = new Bench();
        String description = "width 8; op a x:p 7 = 0 x;";
        Bench.due(1, bench.describe(description + " ".repeat(4000 - description.length())), "a full description");
        Bench.due(2, bench.assemble(" ".repeat(3990) + "l:a 5;a l;"), "a full program");
        while (bench.calls() < Bench.MOST_CALLS - 1) {
            Bench.due(5, bench.word(0), "word(0) after " + bench.calls() + " calls");
        }
        Bench.due(127, bench.word(1), "word(1), the 512th call");
        Bench.due(Bench.MOST_CALLS, String.valueOf(bench.calls()), "calls");
    }
}
