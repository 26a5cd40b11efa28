/** Promise 5: wrong. */
public final class WrongTest {
    public static void main(String[] args) {
        tellsTheLatestText();
        looksAtNoTextThatWasNotRead();
        Bench.end();
    }

    private static void tellsTheLatestText() {
        Bench bench = new Bench();
        Bench.due("-1", bench.wrong(), "wrong() of a new object");
        bench.describe("width 9;");
        Bench.due("6", bench.wrong(), "wrong() after a wrong description");
        bench.describe(Bench.USUAL);
        Bench.due("-1", bench.wrong(), "wrong() after a description");
        bench.assemble("nop; nap;");
        Bench.due("5", bench.wrong(), "wrong() after a wrong program");
        bench.text(0);
        bench.encode(1, 999);
        Bench.due("5", bench.wrong(), "wrong() after calls that read no text");
        bench.assemble("nop;");
        Bench.due("-1", bench.wrong(), "wrong() after a program");
        bench.describe("");
        Bench.due("0", bench.wrong(), "wrong() after an empty description");
    }

    private static void looksAtNoTextThatWasNotRead() {
        Bench bench = new Bench();
        bench.describe("width 9;");
        Bench.told(() -> bench.forge.describe(1));
        Bench.due("6", bench.wrong(), "wrong() after describe(1) of nothing");
        Bench.told(() -> bench.forge.assemble(-1));
        Bench.due("6", bench.wrong(), "wrong() after assemble(-1)");
        bench.assemble("\t");
        Bench.due("6", bench.wrong(), "wrong() after assemble without a description");
        Bench usual = Bench.usual();
        Bench.told(() -> usual.forge.assemble(1));
        Bench.due("-1", usual.wrong(), "wrong() after assemble(1) of nothing");
    }
}
