/** Promise 1: a new object; and the order of exceptions, which binds every call. */
public final class NewObjectTest {
    public static void main(String[] args) {
        nothingIsThere();
        firstListedExceptionIsThrown();
        objectsAreApart();
        Bench.end();
    }

    private static void nothingIsThere() {
        Bench bench = new Bench();
        for (int what = 0; what <= 5; what++) {
            Bench.due("0", bench.count(what), "new: count(" + what + ")");
        }
        Bench.due("-1", bench.wrong(), "new: wrong()");
        Bench.due(Bench.BOUNDS, bench.word(0), "new: word(0)");
        Bench.due(Bench.STATE, bench.op(0), "new: op(0)");
        Bench.due(Bench.STATE, bench.text(0), "new: text(0)");
        Bench.due(Bench.BOUNDS, Bench.told(() -> bench.forge.letters(0)), "new: letters(0)");
        Bench.due(Bench.STATE, Bench.told(() -> bench.forge.assemble(0)), "new: assemble(0)");
    }

    private static void firstListedExceptionIsThrown() {
        Bench bench = new Bench();
        Bench.due(Bench.BOUNDS, Bench.told(() -> bench.forge.assemble(1)), "new: assemble(1)");
        Bench.due(Bench.STATE, bench.operand(0, -1), "new: operand(0, -1)");
        Bench.due(Bench.STATE, bench.encode(-1), "new: encode(-1)");
        Bench usual = Bench.usual();
        Bench.due(Bench.BOUNDS, usual.encode(4, 99, 99, 99, 99, 99, 99), "encode(4, 99 ..)");
    }

    private static void objectsAreApart() {
        Bench first = Bench.usual();
        Bench second = new Bench();
        first.assemble("nop;");
        Bench.due(Bench.STATE, second.op(0), "another object: op(0)");
        Bench.due("0", second.count(3), "another object: count(3)");
    }
}
