import java.util.ArrayList;
import java.util.List;
import java.util.Map;
import java.util.Random;
import java.util.TreeMap;

/**
 * Long runs on one object, of all its 512 calls: descriptions and programs one after the other, right and wrong ones, with
 * the other calls between them. Each answer must be the one of the model.
 */
public final class ModelRunsTest {
    private static final int RUNS = 400;

    /** How often each sort of answer was seen. */
    private static final Map<String, Integer> SEEN = new TreeMap<>();

    private final int run;
    private final Random random;
    private final MadeUp madeUp;
    private final Bench bench = new Bench();
    private final Model model = new Model();
    private boolean apart = false;

    private ModelRunsTest(int run) {
        this.run = run;
        random = new Random(512_000 + run);
        madeUp = new MadeUp(random);
    }

    public static void main(String[] args) {
        for (int run = 0; run < RUNS; run++) {
            new ModelRunsTest(run).go();
        }
        enoughWasSeen();
        Bench.end();
    }

    /** What is made up must reach what the runs are for. */
    private static void enoughWasSeen() {
        String[] sorts = {"describe right", "describe wrong", "describe refused", "assemble right", "assemble wrong",
            "assemble refused", "right texts of 4,000 letters", "wrong texts of 4,000 letters", "programs of 1,000 words",
            "descriptions of 60 ops", "feed refused", "operand right", "encode right", "encode refused", "word right"};
        int[] least = {1000, 300, 100, 1000, 300, 100, 40, 20, 4, 8, 40, 2000, 2000, 500, 2000};
        for (int i = 0; i < sorts.length; i++) {
            int seen = SEEN.getOrDefault(sorts[i], 0);
            Bench.due("true", String.valueOf(seen >= least[i]), sorts[i] + ": seen " + seen + " times, at least " + least[i]);
        }
    }

    private static void saw(String sort) {
        SEEN.merge(sort, 1, Integer::sum);
    }

    private int callsLeft() {
        return apart ? 0 : Bench.MOST_CALLS - bench.calls();
    }

    private void go() {
        while (callsLeft() > 0) {
            if (madeUp.oneOf(model.description() == null ? 2 : model.program() == null ? 5 : 30)) {
                readText();
            } else {
                ask();
            }
        }
    }

    private void readText() {
        boolean describes = model.description() == null ? !madeUp.oneOf(8) : madeUp.oneOf(4);
        String text = model.description() == null || describes ? madeUp.description() : madeUp.program(model.description());
        text = madeUp.oneOf(4) ? madeUp.spoilt(text) : text;
        text = madeUp.oneOf(16) ? madeUp.stretched(text) : text;
        // A refused call, and one that is not, must fit behind it.
        if (text.length() / 20 + 6 > callsLeft()) {
            return;
        }
        feed(text);
        if (madeUp.oneOf(6)) {
            feedFour(random.nextInt(), random.nextInt(), random.nextInt(), random.nextInt(), random.nextInt());
        }
        if (madeUp.oneOf(10)) {
            read(describes, madeUp.oneOf(2) ? -1 - random.nextInt(3) : Integer.parseInt(model.count(5)) + 1);
        }
        read(describes, madeUp.oneOf(12) ? random.nextInt(text.length() + 1) : text.length());
        answer("wrong()", model.wrong(), bench.wrong());
    }

    private void feed(String text) {
        for (int at = 0; at < text.length() && !apart; at += 20) {
            feedFour(four(text, at), four(text, at + 4), four(text, at + 8), four(text, at + 12), four(text, at + 16));
        }
    }

    private static int four(String text, int at) {
        int four = 0;
        for (int i = at; i < at + 4; i++) {
            four = four << 8 | (i < text.length() ? text.charAt(i) : 0);
        }
        return four;
    }

    private void feedFour(int a, int b, int c, int d, int e) {
        String answer = model.feed(a, b, c, d, e);
        saw(answer.equals(Bench.BOUNDS) ? "feed refused" : "feed right");
        answer("feed(" + a + ", " + b + ", " + c + ", " + d + ", " + e + ")", answer, bench.feed(a, b, c, d, e));
    }

    private void read(boolean describes, int n) {
        String call = describes ? "describe" : "assemble";
        String answer = describes ? model.describe(n) : model.assemble(n);
        answer(call + "(" + n + ")", answer, describes ? bench.describe(n) : bench.assemble(n));
        String sort = answer.equals(Bench.ARGUMENT) ? "wrong" : answer.startsWith("throws.") ? "refused" : "right";
        saw(call + " " + sort);
        if (n == 4000) {
            saw(sort + " texts of 4,000 letters");
        }
        if (answer.equals(describes ? "60" : "1000")) {
            saw(describes ? "descriptions of 60 ops" : "programs of 1,000 words");
        }
    }

    private void ask() {
        int word = anyWord();
        int k = madeUp.oneOf(6) ? random.nextInt() : random.nextInt(8) - 1;
        switch (random.nextInt(8)) {
            case 0 -> answer("wrong()", model.wrong(), bench.wrong());
            case 1 -> askWord();
            case 2 -> answer("op(" + word + ")", model.op(word), bench.op(word));
            case 3 -> askOperand(word);
            case 4 -> askEncode();
            case 5 -> answer("text(" + word + ")", model.text(word), bench.text(word));
            case 6 -> answer("letters(" + k + ")", model.letters(k), bench.letters(k));
            default -> answer("count(" + k + ")", model.count(k), bench.count(k));
        }
    }

    private void askWord() {
        int size = model.program() == null ? 0 : model.program().words().size();
        int k = madeUp.oneOf(6) ? size : random.nextInt(size + 1) - (madeUp.oneOf(10) ? 1 : 0);
        String answer = model.word(k);
        saw(answer.equals(Bench.BOUNDS) ? "word refused" : "word right");
        answer("word(" + k + ")", answer, bench.word(k));
    }

    private void askOperand(int word) {
        int op = model.description() == null ? -1 : Integer.parseInt(model.op(word));
        int size = op < 0 ? 0 : model.description().ops().get(op).operands().size();
        int k = madeUp.oneOf(6) ? random.nextInt() : random.nextInt(size + 1) - (madeUp.oneOf(10) ? 1 : 0);
        String answer = model.operand(word, k);
        saw(answer.startsWith("throws.") ? "operand refused" : "operand right");
        answer("operand(" + word + ", " + k + ")", answer, bench.operand(word, k));
    }

    private void askEncode() {
        int ops = model.description() == null ? 0 : model.description().ops().size();
        int op = ops == 0 || madeUp.oneOf(10) ? random.nextInt(64) - 2 : random.nextInt(ops);
        List<Long> values = new ArrayList<>();
        for (int k = 0; k < 6; k++) {
            boolean has = op >= 0 && op < ops && k < model.description().ops().get(op).operands().size();
            values.add(has ? madeUp.value(model.description().ops().get(op).operands().get(k)) : random.nextLong());
        }
        String answer = model.encode(op, values);
        saw(answer.startsWith("throws.") ? "encode refused" : "encode right");
        long[] row = values.stream().mapToLong(Long::longValue).toArray();
        answer("encode(" + op + ", " + values + ")", answer, bench.encode(op, row));
    }

    /** Any int; of an op, with what the op fixes; or such a one with one bit other, maybe beyond the bits of a word. */
    private int anyWord() {
        int ops = model.description() == null ? 0 : model.description().ops().size();
        if (ops == 0 || madeUp.oneOf(6)) {
            return random.nextInt();
        }
        Model.Op op = model.description().ops().get(random.nextInt(ops));
        int word = 0;
        for (String cell : op.cells()) {
            word = word << 1 | (cell.length() > 1 ? random.nextInt(2) : Integer.parseInt(cell));
        }
        return madeUp.oneOf(3) ? word ^ 1 << random.nextInt(32) : word;
    }

    private void answer(String call, String due, String answer) {
        if (!due.equals(answer)) {
            Bench.due(due, answer, "run " + run + ", call " + bench.calls() + ": " + call);
            apart = true;
        }
    }
}
