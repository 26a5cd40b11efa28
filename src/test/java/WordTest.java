/** Promise 6: word. */
public final class WordTest {
    public static void main(String[] args) {
        Bench bench = Bench.usual();
        Bench.due(Bench.BOUNDS, bench.word(0), "word(0) without a program");
        bench.assemble("word 1; word 0xffff; add r7, r0, r1;");
        Bench.due("1", bench.word(0), "word(0)");
        Bench.due("65535", bench.word(1), "word(1)");
        Bench.due(String.valueOf(0b0001_111_000_001_000), bench.word(2), "word(2)");
        Bench.due(Bench.BOUNDS, bench.word(3), "word(3)");
        Bench.due(Bench.BOUNDS, bench.word(-1), "word(-1)");
        Bench.due(Bench.BOUNDS, bench.word(Integer.MAX_VALUE), "word(2147483647)");
        Bench.due(Bench.BOUNDS, bench.word(Integer.MIN_VALUE), "word(-2147483648)");
        bench.assemble("word 2;");
        Bench.due("2", bench.word(0), "word(0) of the next program");
        Bench.due(Bench.BOUNDS, bench.word(1), "word(1) of the next program");
        bench.assemble("word 3; word");
        Bench.due(Bench.BOUNDS, bench.word(0), "word(0) of a wrong program");
        bench.assemble("word 3;");
        bench.describe(Bench.USUAL);
        Bench.due(Bench.BOUNDS, bench.word(0), "word(0) after describe");
        bench.assemble("");
        Bench.due(Bench.BOUNDS, bench.word(0), "word(0) of an empty program");
        Bench.end();
    }
}
