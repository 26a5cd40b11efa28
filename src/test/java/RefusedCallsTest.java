import java.util.ArrayList;
import java.util.List;
import java.util.function.Function;
import java.util.function.Supplier;

/**
 * Promise 1, of every call: "Of several exceptions of a call the one listed first is thrown; what throws changes nothing but
 * what is told." Two objects are brought to the same state; one gets the refused call, and both must answer alike then.
 * Texts that are WRONG do change something: that is tested by the tests of promises 3 and 4.
 */
public final class RefusedCallsTest {
    private static final int LEAST = Integer.MIN_VALUE;
    private static final int MOST = Integer.MAX_VALUE;
    private static final String PROGRAM = "c: nop; add r1, r2, r3; d: jmp c;       ";
    private static final int[] WORDS = {0, 1, 16227, 0x1250, -1, LEAST};

    public static void main(String[] args) {
        for (Supplier<Bench> state : withoutDescription()) {
            dueInEveryState(state);
            dueWithoutDescription(state);
        }
        for (Supplier<Bench> state : withDescription()) {
            dueInEveryState(state);
            dueWithDescription(state);
        }
        dueIfFull();
        Bench.end();
    }

    /** Blanks behind it make all octets that are fed a text. */
    private static String padded(String text) {
        return text + " ".repeat((20 - text.length() % 20) % 20);
    }

    private static List<Supplier<Bench>> withoutDescription() {
        List<Supplier<Bench>> states = new ArrayList<>();
        states.add(Bench::new);
        states.add(() -> {
            Bench fed = new Bench();
            fed.feed(padded(Bench.USUAL));
            return fed;
        });
        states.add(() -> {
            Bench wrongBefore = new Bench();
            wrongBefore.describe("width 9;");
            wrongBefore.feed(padded(Bench.USUAL));
            return wrongBefore;
        });
        states.add(() -> {
            Bench lost = assembled();
            lost.describe("width 8");
            lost.feed(padded(Bench.USUAL));
            return lost;
        });
        return states;
    }

    private static List<Supplier<Bench>> withDescription() {
        List<Supplier<Bench>> states = new ArrayList<>();
        states.add(Bench::usual);
        states.add(() -> {
            Bench fed = assembled();
            fed.feed(padded(PROGRAM));
            return fed;
        });
        states.add(() -> {
            Bench wrongProgram = assembled();
            wrongProgram.assemble("nop; nap;");
            wrongProgram.feed(padded(PROGRAM));
            return wrongProgram;
        });
        return states;
    }

    private static Bench assembled() {
        Bench bench = Bench.usual();
        bench.assemble("a: nop; b: li r3, -5; jmp a;");
        bench.text(0x1250);
        return bench;
    }

    private static void dueInEveryState(Supplier<Bench> state) {
        int fed = Integer.parseInt(state.get().count(5));
        int words = Integer.parseInt(state.get().count(3));
        // For n before it is asked whether there is a description.
        for (int n : new int[] {LEAST, -1, fed + 1, MOST}) {
            due(Bench.BOUNDS, state, bench -> bench.describe(n), "describe(" + n + ")");
            due(Bench.BOUNDS, state, bench -> bench.assemble(n), "assemble(" + n + ")");
        }
        for (int k : new int[] {LEAST, -1, words, MOST}) {
            due(Bench.BOUNDS, state, bench -> bench.word(k), "word(" + k + ")");
        }
        for (int k : new int[] {LEAST, -1, 2, 1 << 29, MOST}) {
            due(Bench.BOUNDS, state, bench -> bench.letters(k), "letters(" + k + ")");
        }
        for (int what : new int[] {LEAST, -1, 6, MOST}) {
            due(Bench.ARGUMENT, state, bench -> bench.count(what), "count(" + what + ")");
        }
    }

    private static void dueWithoutDescription(Supplier<Bench> state) {
        int fed = Integer.parseInt(state.get().count(5));
        for (int n : new int[] {0, fed}) {
            due(Bench.STATE, state, bench -> bench.assemble(n), "assemble(" + n + ") without a description");
        }
        for (int word : WORDS) {
            due(Bench.STATE, state, bench -> bench.op(word), "op(" + word + ") without a description");
            due(Bench.STATE, state, bench -> bench.text(word), "text(" + word + ") without a description");
            for (int k : new int[] {LEAST, -1, 0, 6, MOST}) {
                due(Bench.STATE, state, bench -> bench.operand(word, k), "operand without a description");
            }
        }
        for (int op : new int[] {LEAST, -1, 0, 4, MOST}) {
            due(Bench.STATE, state, bench -> bench.encode(op, 1, 1, 1), "encode without a description");
            due(Bench.STATE, state, bench -> bench.encode(op, Long.MAX_VALUE), "encode without a description");
        }
    }

    private static void dueWithDescription(Supplier<Bench> state) {
        for (int k : new int[] {LEAST, -1, 3, MOST}) {
            due(Bench.BOUNDS, state, bench -> bench.operand(0x1250, k), "operand(0x1250, " + k + ")");
        }
        due(Bench.BOUNDS, state, bench -> bench.operand(0, 0), "operand(0, 0)");
        due(Bench.BOUNDS, state, bench -> bench.operand(1, 0), "operand(1, 0)");
        for (int op : new int[] {LEAST, -1, 4, MOST}) {
            due(Bench.BOUNDS, state, bench -> bench.encode(op), "encode(" + op + ")");
            due(Bench.BOUNDS, state, bench -> bench.encode(op, Long.MIN_VALUE), "encode(" + op + ") and operands");
        }
        for (long value : new long[] {Long.MIN_VALUE, -513, 512, Long.MAX_VALUE}) {
            due(Bench.ARGUMENT, state, bench -> bench.encode(2, value), "encode(2, " + value + ")");
            due(Bench.ARGUMENT, state, bench -> bench.encode(1, 1, value), "encode(1, 1, " + value + ")");
            due(Bench.ARGUMENT, state, bench -> bench.encode(0, 1, 1, value), "encode(0, 1, 1, " + value + ")");
        }
    }

    private static void dueIfFull() {
        Supplier<Bench> state = () -> {
            Bench full = assembled();
            full.feed(PROGRAM + " ".repeat(3960 - PROGRAM.length()) + "e: li r1, 1; nop; f: jmp e;             ");
            return full;
        };
        due(Bench.BOUNDS, state, bench -> bench.feed(LEAST, MOST, 0, -1, 0x24242424), "feed");
        due(Bench.BOUNDS, state, bench -> bench.assemble(4001), "assemble(4001)");
        due(Bench.BOUNDS, state, bench -> bench.describe(4001), "describe(4001)");
    }

    private static void due(String exception, Supplier<Bench> state, Function<Bench, String> call, String what) {
        Bench called = state.get();
        Bench left = state.get();
        Bench.due(exception, call.apply(called), what);
        Bench.due(allAnswers(left), allAnswers(called), "all answers after " + what);
    }

    /** At last all that is fed is a text, so that each of its octets counts. */
    private static String allAnswers(Bench bench) {
        StringBuilder answers = new StringBuilder();
        addAnswers(bench, answers);
        int fed = Integer.parseInt(bench.count(5));
        boolean described = !bench.count(0).equals("0");
        answers.append(described ? bench.assemble(fed) : bench.describe(fed)).append(' ');
        addAnswers(bench, answers);
        return answers.toString();
    }

    private static void addAnswers(Bench bench, StringBuilder answers) {
        answers.append(bench.counts()).append(" wrong ").append(bench.wrong()).append(" letters");
        for (int k = 0; k < 3; k++) {
            answers.append(' ').append(bench.letters(k));
        }
        answers.append(" words");
        for (int k = 0; k < 7; k++) {
            answers.append(' ').append(bench.word(k));
        }
        for (int word : WORDS) {
            answers.append(' ').append(bench.op(word)).append(' ').append(bench.operand(word, 0)).append(' ')
                    .append(bench.line(word));
        }
        for (int op = 0; op < 4; op++) {
            answers.append(' ').append(bench.encode(op, 1, 2, 3)).append('\n');
        }
    }
}
