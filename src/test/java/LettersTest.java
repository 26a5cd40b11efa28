/** Promise 11: letters. */
public final class LettersTest {
    public static void main(String[] args) {
        Bench bench = Bench.usual();
        dueLetters(Bench.BOUNDS, bench, 0);
        bench.forge.text(0x1250);
        dueLetters(String.valueOf(0x6164642072312c20L), bench, 0);
        dueLetters(String.valueOf(0x72312c2072323b00L), bench, 1);
        dueLetters(Bench.BOUNDS, bench, 2);
        dueLetters(Bench.BOUNDS, bench, -1);
        dueLetters(Bench.BOUNDS, bench, Integer.MAX_VALUE);
        dueLetters(Bench.BOUNDS, bench, Integer.MIN_VALUE);
        // 2 ** 29 times 8 is 0 in an int.
        dueLetters(Bench.BOUNDS, bench, 1 << 29);

        // A shorter text leaves nothing of the longer one.
        bench.forge.text(0);
        dueLetters(String.valueOf(0x6e6f703b00000000L), bench, 0);
        dueLetters(Bench.BOUNDS, bench, 1);

        // It stays until the next one is made, whatever else is called.
        bench.assemble("add r1, r1, r1;");
        dueLetters(String.valueOf(0x6e6f703b00000000L), bench, 0);
        bench.describe("width");
        Bench.due(Bench.STATE, bench.text(0), "text without a description");
        dueLetters(String.valueOf(0x6e6f703b00000000L), bench, 0);

        Bench eight = Bench.of("width 8; op abcdefg = 00000000;");
        eight.forge.text(0);
        dueLetters(String.valueOf(0x616263646566673bL), eight, 0);
        dueLetters(Bench.BOUNDS, eight, 1);
        Bench.end();
    }

    private static void dueLetters(String want, Bench bench, int k) {
        Bench.due(want, Bench.told(() -> bench.forge.letters(k)), "letters(" + k + ")");
    }
}
