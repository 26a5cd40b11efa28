/** Promise 2: feed. */
public final class FeedTest {
    public static void main(String[] args) {
        highestOctetComesFirst();
        fourThousandAndNoMore();
        octetsStayUntilTheyAreUsed();
        Bench.end();
    }

    private static void highestOctetComesFirst() {
        Bench bench = new Bench();
        // "widt" "h 08" ";\n  " and blanks
        Bench.due("20", Bench.told(() ->
                bench.forge.feed(0x77696474, 0x68203038, 0x3b0a2020, 0x20202020, 0x20202020)), "feed");
        Bench.due("0", Bench.told(() -> bench.forge.describe(20)), "describe(20)");
        Bench.due("8", bench.count(0), "count(0)");
        Bench.due("20", Bench.told(() -> bench.forge.feed(-1, -1, -1, -1, -1)), "feed(-1 ..)");
        Bench.due("20", bench.count(5), "count(5)");
    }

    private static void fourThousandAndNoMore() {
        Bench bench = new Bench();
        for (int feeds = 1; feeds <= 200; feeds++) {
            Bench.due(String.valueOf(20 * feeds), Bench.told(() -> bench.forge.feed(0, 0, 0, 0, 0)), "feed");
        }
        Bench.due(Bench.BOUNDS, Bench.told(() -> bench.forge.feed(0, 0, 0, 0, 0)), "feed 201");
        Bench.due("4000", bench.count(5), "count(5) after feed 201");
        Bench.due(Bench.ARGUMENT, Bench.told(() -> bench.forge.describe(4000)), "describe(4000)");
        Bench.due("20", Bench.told(() -> bench.forge.feed(0, 0, 0, 0, 0)), "feed after describe");
    }

    private static void octetsStayUntilTheyAreUsed() {
        Bench bench = new Bench();
        bench.feed("width 8; op a = 1111");
        bench.feed("0000;");
        Bench.due("40", bench.count(5), "count(5) after two feeds");
        Bench.due("1", Bench.told(() -> bench.forge.describe(25)), "describe(25)");
        Bench.due("0", bench.op(0xf0), "op(0xf0)");
    }
}
