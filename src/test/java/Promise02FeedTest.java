/** Promise 2: feed. The remark at each test quotes the words that it belongs to. */
public final class Promise02FeedTest {
    public static void main(String[] args) {
        everyOctetHasItsPlace();
        octetsOfLettersInTheirOrder();
        howManyOctetsAre();
        noMoreThanFourThousand();
        nothingIsFedAfterAText();
        nothingElseChanges();
        Bench.end();
    }

    /** "20 octets, four of a first, the highest one first": of 20 blanks one is another octet, and found where it is. */
    private static void everyOctetHasItsPlace() {
        int blanks = 0x20202020;
        for (int place = 0; place < 20; place++) {
            for (int octet : new int[] {0, 1, 127, 128, 255}) {
                int[] row = {blanks, blanks, blanks, blanks, blanks};
                int shift = 24 - 8 * (place % 4);
                row[place / 4] = blanks & ~(255 << shift) | octet << shift;
                Bench bench = new Bench();
                Bench.due(20, bench.feed(row[0], row[1], row[2], row[3], row[4]), "feed");
                Bench.due(Bench.ARGUMENT, bench.describe(20), "describe of octet " + octet);
                Bench.due(place, bench.wrong(), "place of octet " + octet);
            }
        }
        Bench ends = new Bench();
        Bench.due(20, ends.feed(blanks, Integer.MAX_VALUE, Integer.MIN_VALUE, -1, 0), "feed of the ends of int");
        Bench.due(Bench.ARGUMENT, ends.describe(20), "describe of the ends of int");
        Bench.due(4, ends.wrong(), "place of 127, the highest octet of the largest int");
    }

    /** "the highest one first" */
    private static void octetsOfLettersInTheirOrder() {
        Bench bench = new Bench();
        // "widt" "h 16" ";set" " abc" "d 6;"
        Bench.due(20, bench.feed(0x77696474, 0x68203136, 0x3b736574, 0x20616263, 0x6420363b), "feed");
        Bench.due(0, bench.describe(20), "describe(20)");
        Bench.due("16 1 0 0 0 0", bench.counts(), "counts");
    }

    /** "come to what is fed: how many octets are" */
    private static void howManyOctetsAre() {
        Bench bench = new Bench();
        bench.feed("width 8; op a = 1111");
        Bench.due(20, bench.count(5), "count(5) after one feed");
        bench.feed("0000;");
        Bench.due(40, bench.count(5), "count(5) after two feeds");
        Bench.due(1, bench.describe(25), "describe(25)");
        Bench.due(0, bench.op(0xf0), "op(0xf0)");
    }

    /** "IndexOutOfBoundsException: there would be more than 4,000." */
    private static void noMoreThanFourThousand() {
        Bench bench = new Bench();
        String text = "width 8;" + " ".repeat(3975) + "op a = 01010101 ;";
        for (int feeds = 1; feeds < 200; feeds++) {
            int at = 20 * (feeds - 1);
            bench.feed(text.substring(at, at + 20));
            Bench.due(20 * feeds, bench.count(5), "count(5) after feed " + feeds);
        }
        Bench.due(4000, bench.feed(four(text, 3980), four(text, 3984), four(text, 3988), four(text, 3992), four(text, 3996)),
                "feed 200");
        for (int again = 0; again < 3; again++) {
            Bench.due(Bench.BOUNDS, bench.feed(0, -1, Integer.MIN_VALUE, Integer.MAX_VALUE, 0), "feed 201");
        }
        Bench.due(4000, bench.count(5), "count(5) after feed 201");
        Bench.due(1, bench.describe(4000), "describe(4000) after feed 201");
        Bench.due(0, bench.op(0x55), "op(0x55) of 4,000 octets");
        Bench.due(20, bench.feed(0, 0, 0, 0, 0), "feed after describe");
    }

    private static int four(String text, int at) {
        return text.charAt(at) << 24 | text.charAt(at + 1) << 16 | text.charAt(at + 2) << 8 | text.charAt(at + 3);
    }

    /** Promises 3 and 4: "what was fed (which is nothing then, WRONG or not)": the next octets are the first ones. */
    private static void nothingIsFedAfterAText() {
        Bench bench = new Bench();
        bench.feed(Bench.USUAL);
        Bench.due(4, bench.describe(Bench.USUAL.length()), "describe");
        Bench.due(20, bench.feed(0x6e6f703b, 0, 0, 0, 0), "feed after a right description");
        Bench.due(1, bench.assemble(4), "assemble");
        Bench.due(20, bench.feed(0x6e6f7020, 0, 0, 0, 0), "feed after a right program");
        Bench.due(Bench.ARGUMENT, bench.assemble(4), "assemble, wrong");
        Bench.due(20, bench.feed(0x20202020, 0, 0, 0, 0), "feed after a wrong program");
        Bench.due(Bench.ARGUMENT, bench.describe(0), "describe, wrong");
        Bench.due(20, bench.feed(0x20202020, 0, 0, 0, 0), "feed after a wrong description");
        // Calls that look at no text leave what is fed.
        Bench.due(Bench.BOUNDS, bench.describe(21), "describe(21)");
        Bench.due(40, bench.feed(0, 0, 0, 0, 0), "feed after describe(21)");
        Bench.due(Bench.BOUNDS, bench.assemble(41), "assemble(41)");
        Bench.due(60, bench.feed(0, 0, 0, 0, 0), "feed after assemble(41)");
        Bench.due(Bench.STATE, bench.assemble(0), "assemble(0) without a description");
        Bench.due(80, bench.feed(0, 0, 0, 0, 0), "feed after assemble(0) without a description");
    }

    /** Octets "come to what is fed", and to nothing else. */
    private static void nothingElseChanges() {
        Bench bench = Bench.usual();
        bench.assemble("a: nop; li r3, -5;");
        bench.line(0x1250);
        bench.feed("width 8; op b = 00000000;");
        Bench.due("16 1 4 2 1 40", bench.counts(), "counts after feed");
        Bench.due(-1, bench.wrong(), "wrong() after feed");
        Bench.due(16227, bench.word(1), "word(1) after feed");
        Bench.due(1, bench.op(16227), "op after feed");
        Bench.due(0x6164642072312c20L, bench.letters(0), "letters(0) after feed");
        Bench.due("li r3, -5;", bench.line(16227), "text after feed");
    }
}
