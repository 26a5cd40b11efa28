/** Promise 12: count. */
public final class CountTest {
    public static void main(String[] args) {
        Bench bench = new Bench();
        dueCounts("0 0 0 0 0 0", bench, "new");
        bench.describe("width 24; set a 1; set b 2; op x = 000000000000000000000000;");
        dueCounts("24 2 1 0 0 0", bench, "after describe");
        bench.assemble("l: m: n: x; word 1;");
        dueCounts("24 2 1 2 3 0", bench, "after assemble");
        bench.feed("nothing");
        dueCounts("24 2 1 2 3 20", bench, "after feed");
        Bench.told(() -> bench.forge.assemble(7));
        dueCounts("24 2 1 0 0 0", bench, "after assemble, wrong");
        bench.assemble("l: x;");
        bench.describe("width 8; set c 3; set d 3; op y = 00000000; op y");
        dueCounts("0 0 0 0 0 0", bench, "after describe, wrong");
        int[] others = {-1, 6, Integer.MAX_VALUE, Integer.MIN_VALUE};
        for (int what : others) {
            Bench.due(Bench.ARGUMENT, bench.count(what), "count(" + what + ")");
        }
        Bench.end();
    }

    private static void dueCounts(String want, Bench bench, String when) {
        StringBuilder counts = new StringBuilder(bench.count(0));
        for (int what = 1; what <= 5; what++) {
            counts.append(' ').append(bench.count(what));
        }
        Bench.due(want, counts.toString(), "counts " + when);
    }
}
