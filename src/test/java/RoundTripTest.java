import java.util.ArrayList;
import java.util.Collections;
import java.util.List;
import java.util.Random;

/** Descriptions made up from a fixed seed: encode, operand, op, text and assemble must agree. */
public final class RoundTripTest {
    private static final Random RANDOM = new Random(20261116);

    public static void main(String[] args) {
        for (int round = 0; round < 400; round++) {
            checkDescription();
        }
        Bench.end();
    }

    private static void checkDescription() {
        int width = 8 * (1 + RANDOM.nextInt(4));
        int fixed = RANDOM.nextInt(4);
        StringBuilder text = new StringBuilder("width " + width + "; set r 3; set q1 1;");
        int ops = 1 << fixed;
        for (int i = 0; i < ops; i++) {
            text.append(makeOp(i, ops, fixed, width));
        }
        Bench bench = Bench.of(text.toString());
        for (int k = 0; k < 12; k++) {
            checkWord(bench, RANDOM.nextInt(), width);
        }
    }

    private static String makeOp(int index, int ops, int fixed, int width) {
        List<String> fields = new ArrayList<>();
        StringBuilder operands = new StringBuilder();
        int free = width - fixed;
        for (int k = 0; k < 6 && free > 0; k++) {
            int kind = RANDOM.nextInt(5);
            int size = kind == 3 ? 3 : kind == 4 ? 1 : 1 + RANDOM.nextInt(free);
            if (size <= free) {
                String name = "x" + k;
                String type = kind == 3 ? "r" : kind == 4 ? "q1" : "usp".charAt(kind) + " " + size;
                operands.append(operands.length() == 0 ? " " : ", ").append(name).append(':').append(type);
                addFields(fields, name, size);
                free -= size;
            }
        }
        Collections.shuffle(fields, RANDOM);
        String prefix = fixed == 0 ? "" : Integer.toBinaryString(ops + index).substring(1);
        String suffix = "0".repeat(free);
        return "op o" + index + operands + " = " + prefix + " " + String.join(" ", fields) + " " + suffix + ";\n";
    }

    private static void addFields(List<String> fields, String name, int size) {
        int cut = RANDOM.nextInt(size);
        if (cut == 0) {
            fields.add(name);
        } else {
            fields.add(name + "[" + (size - 1) + ":" + cut + "]");
            fields.add(name + "[" + (cut - 1) + ":0]");
        }
    }

    private static void checkWord(Bench bench, int word, int width) {
        int shown = width == 32 ? word : word & (1 << width) - 1;
        String text = bench.line(word);
        bench.dueWords(String.valueOf(shown), text);
        int op = Integer.parseInt(bench.op(word));
        if (op < 0) {
            return;
        }
        long[] values = new long[6];
        for (int k = 0; k < 6; k++) {
            String told = bench.operand(word, k);
            values[k] = told.startsWith("throws.") ? 0 : Long.parseLong(told);
        }
        Bench.due(String.valueOf(shown), bench.encode(op, values), "encode of " + text);
    }
}
