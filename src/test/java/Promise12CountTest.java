/** Promise 12: count. The remark at each test quotes the words that it belongs to. */
public final class Promise12CountTest {
    public static void main(String[] args) {
        afterEachCall();
        none();
        most();
        others();
        Bench.end();
    }

    /** "What 0: W; 1: sets; 2: ops ..; 3: WORDS, 4: labels of THE PROGRAM; 5: octets that are fed." */
    private static void afterEachCall() {
        Bench bench = new Bench();
        bench.describe("width 24; set a 1; set b 2; op x = 000000000000000000000000;");
        Bench.due("24 2 1 0 0 0", bench.counts(), "counts after describe");
        bench.assemble("l: m: n: x; word 1;");
        Bench.due("24 2 1 2 3 0", bench.counts(), "counts after assemble");
        bench.feed("nothing");
        Bench.due("24 2 1 2 3 20", bench.counts(), "counts after feed");
        bench.assemble(7);
        Bench.due("24 2 1 0 0 0", bench.counts(), "counts after assemble, wrong");
        bench.assemble("l: x;");
        Bench.due("24 2 1 1 1 0", bench.counts(), "counts after assemble again");
        bench.describe("width 8; set c 3; op y = 00000000; op z = 00000001;");
        Bench.due("8 1 2 0 0 0", bench.counts(), "counts after describe again");
    }

    /** "(0 to 2: 0 without a DESCRIPTION)" */
    private static void none() {
        Bench bench = new Bench();
        Bench.due("0 0 0 0 0 0", bench.counts(), "counts of a new object");
        bench.feed("width");
        Bench.due("0 0 0 0 0 20", bench.counts(), "counts after feed alone");
        bench.describe("width 8; set c 3; set d 3; op y = 00000000; op y");
        Bench.due("0 0 0 0 0 0", bench.counts(), "counts after a wrong description");
        bench.describe("width 8;");
        Bench.due("8 0 0 0 0 0", bench.counts(), "counts of the least description");
        bench.assemble("l: m: word 1; word");
        Bench.due("8 0 0 0 0 0", bench.counts(), "counts after a wrong program");
    }

    /** Terms 1 to 3: the most of each that there can be. */
    private static void most() {
        StringBuilder description = new StringBuilder("width 32;");
        for (int i = 0; i < 12; i++) {
            description.append("set r").append(i).append("_ 1;");
        }
        for (int i = 0; i < 60; i++) {
            String bits = Integer.toBinaryString(64 + i).substring(1);
            description.append("op o").append(i).append(" x:u 26=").append(bits).append("x;");
        }
        Bench bench = Bench.of(description.toString());
        StringBuilder program = new StringBuilder();
        for (int i = 0; i < 60; i++) {
            program.append('l').append(i).append(':');
        }
        bench.assemble(program.toString());
        Bench.due("32 12 60 0 60 0", bench.counts(), "counts of 12 sets, 60 ops and 60 labels");
        Bench words = Bench.of("width 8; op a = 00000000;");
        words.assemble("a;".repeat(1000));
        Bench.due("8 0 1 1000 0 0", words.counts(), "counts of 1,000 words");
        words.feed(" ".repeat(4000));
        Bench.due("8 0 1 1000 0 4000", words.counts(), "counts of 1,000 words and 4,000 octets");
    }

    /** "IllegalArgumentException for others." */
    private static void others() {
        Bench bench = new Bench();
        Bench described = Bench.usual();
        for (int what : new int[] {-1, 6, 7, 256, Integer.MIN_VALUE, Integer.MAX_VALUE}) {
            Bench.due(Bench.ARGUMENT, bench.count(what), "count(" + what + ") of a new object");
            Bench.due(Bench.ARGUMENT, described.count(what), "count(" + what + ") with a description");
        }
    }
}
