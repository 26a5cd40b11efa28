import java.util.ArrayList;
import java.util.Collections;
import java.util.List;
import java.util.Random;

/** Descriptions and programs made up from a seed: most are right, and some are spoilt then. */
final class MadeUp {
    private static final int MOST_LETTERS = 4000;
    private static final String FIRST_LETTERS = "abcxyzRZ_";
    private static final String LETTERS = FIRST_LETTERS + "0129";

    private final Random random;

    MadeUp(Random random) {
        this.random = random;
    }

    boolean oneOf(int many) {
        return random.nextInt(many) == 0;
    }

    private String name(int longest) {
        StringBuilder name = new StringBuilder();
        name.append(FIRST_LETTERS.charAt(random.nextInt(FIRST_LETTERS.length())));
        for (int more = random.nextInt(oneOf(4) ? longest : 3); more > 0; more--) {
            name.append(LETTERS.charAt(random.nextInt(LETTERS.length())));
        }
        return name.toString();
    }

    private List<String> names(int many, int longest) {
        List<String> names = new ArrayList<>();
        while (names.size() < many) {
            String name = name(longest);
            if (!names.contains(name)) {
                names.add(name);
            }
        }
        return names;
    }

    /** Ops begin with bits of their own, so that no word is of two. */
    String description() {
        int width = 8 * (1 + random.nextInt(4));
        List<String> sets = names(oneOf(10) ? 10 + random.nextInt(4) : random.nextInt(4), 10);
        List<Integer> sizes = new ArrayList<>();
        StringBuilder text = new StringBuilder("width " + width + ";");
        for (String set : sets) {
            sizes.add(1 + random.nextInt(6));
            text.append(" set ").append(set).append(' ').append(sizes.get(sizes.size() - 1)).append(';');
        }
        int fixed = oneOf(10) ? 6 : random.nextInt(4);
        List<Integer> codes = new ArrayList<>();
        for (int code = 0; code < 1 << fixed; code++) {
            codes.add(code);
        }
        Collections.shuffle(codes, random);
        // 64 ops are too many, 60 are not.
        List<String> ops = names(Math.min(codes.size(), 58 + random.nextInt(5)), 12);
        for (int i = 0; i < ops.size() && text.length() < MOST_LETTERS - 400; i++) {
            String code = fixed == 0 ? "" : Integer.toBinaryString(1 << fixed | codes.get(i)).substring(1);
            text.append(oneOf(2) ? "\n" : " ").append(op(ops.get(i), code, width, sets, sizes));
        }
        return text.toString();
    }

    private String op(String name, String code, int width, List<String> sets, List<Integer> sizes) {
        List<String> operands = new ArrayList<>();
        List<String> fields = new ArrayList<>();
        int free = width - code.length();
        List<String> operandNames = names(random.nextInt(oneOf(6) ? 7 : 4), 12);
        for (String operand : operandNames) {
            int set = oneOf(2) && !sets.isEmpty() ? random.nextInt(sets.size()) : -1;
            int size = set < 0 ? 1 + random.nextInt(oneOf(3) ? 32 : 8) : sizes.get(set);
            if (size <= free) {
                operands.add(operand + ":" + (set < 0 ? "usp".charAt(random.nextInt(3)) + " " + size : sets.get(set)));
                addFields(fields, operand, size);
                free -= size;
            }
        }
        while (free > 0) {
            int bits = 1 + random.nextInt(free);
            fields.add(Integer.toBinaryString(random.nextInt()).concat("0".repeat(32)).substring(0, bits));
            free -= bits;
        }
        Collections.shuffle(fields, random);
        String head = "op " + name + " " + String.join(oneOf(2) ? "," : ", ", operands);
        return head + " = " + code + " " + String.join(" ", fields) + ";";
    }

    private void addFields(List<String> fields, String operand, int size) {
        int cut = random.nextInt(size);
        if (cut == 0) {
            fields.add(oneOf(4) ? operand + "[" + (size - 1) + ":0]" : operand);
        } else {
            fields.add(operand + "[" + (size - 1) + ":" + cut + "]");
            fields.add(operand + "[" + (cut - 1) + ":0]");
        }
    }

    /** A program for a description; one in twenty is as long as can be. */
    String program(Model.Description description) {
        List<String> labels = names(random.nextInt(oneOf(10) ? 64 : 5), 12);
        List<String> open = new ArrayList<>(labels);
        boolean isLong = oneOf(20);
        int words = isLong ? 999 + random.nextInt(3) : random.nextInt(12);
        StringBuilder text = new StringBuilder();
        for (int i = 0; i < words && text.length() < MOST_LETTERS - 200; i++) {
            while (!open.isEmpty() && oneOf(isLong ? 20 : 2)) {
                text.append(open.remove(0)).append(oneOf(2) ? ":" : ": ");
            }
            text.append(isLong ? shortest(description) : statement(description, labels)).append(oneOf(4) ? "\n" : "");
        }
        while (!open.isEmpty() && !oneOf(40) && text.length() < MOST_LETTERS - 20) {
            text.append(open.remove(0)).append(":");
        }
        return text.toString();
    }

    private static String shortest(Model.Description description) {
        for (Model.Op op : description.ops()) {
            if (op.operands().isEmpty() && op.name().length() < 3) {
                return op.name() + ";";
            }
        }
        return "word 1;";
    }

    private String statement(Model.Description description, List<String> labels) {
        if (description.ops().isEmpty() || oneOf(6)) {
            return "word " + number(new Model.Operand("", "u", description.width())) + ";";
        }
        Model.Op op = description.ops().get(random.nextInt(description.ops().size()));
        List<String> values = new ArrayList<>();
        for (Model.Operand operand : op.operands()) {
            if (operand.isRegister()) {
                values.add(operand.kind() + value(operand));
            } else if (operand.kind().equals("p") && !labels.isEmpty() && !oneOf(4)) {
                values.add(labels.get(random.nextInt(labels.size())));
            } else {
                values.add(number(operand));
            }
        }
        return op.name() + " " + String.join(oneOf(2) ? "," : ", ", values) + ";";
    }

    /** What the operand can be, its least and most above all; one in forty is just beyond these. */
    long value(Model.Operand operand) {
        long least = operand.hasSign() ? -(1L << operand.bits() - 1) : 0;
        long most = least + (1L << operand.bits()) - 1;
        long beyond = oneOf(40) ? 1 : 0;
        return switch (random.nextInt(4)) {
            case 0 -> least - beyond;
            case 1 -> most + beyond;
            case 2 -> 0;
            default -> least + (random.nextLong() & most - least);
        };
    }

    private String number(Model.Operand operand) {
        long value = value(operand);
        String sign = value < 0 ? oneOf(3) ? "- " : "-" : oneOf(20) && value == 0 ? "-" : "";
        long size = Math.abs(value);
        return sign + switch (random.nextInt(4)) {
            case 0 -> "0x" + Long.toHexString(size);
            case 1 -> String.format("%0" + (1 + random.nextInt(oneOf(8) ? 11 : 10)) + "d", size);
            default -> String.valueOf(size);
        };
    }

    /** One or two letters or tokens are put, taken away or changed. */
    String spoilt(String text) {
        String spoilt = text;
        for (int times = oneOf(3) ? 2 : 1; times > 0; times--) {
            spoilt = oneOf(2) ? withOtherLetter(spoilt) : withOtherToken(spoilt);
        }
        return spoilt.substring(0, Math.min(spoilt.length(), MOST_LETTERS));
    }

    private String withOtherLetter(String text) {
        int at = random.nextInt(text.length() + 1);
        char letter = oneOf(10) ? (char) random.nextInt(256) : (char) (' ' + random.nextInt(95));
        String before = text.substring(0, at);
        String behind = text.substring(Math.min(text.length(), at + random.nextInt(2)));
        return oneOf(4) ? before : oneOf(3) ? before + behind : before + letter + behind;
    }

    private String withOtherToken(String text) {
        Parts parts = new Parts(text);
        if (parts.size() == 0) {
            return text + ";";
        }
        int i = random.nextInt(parts.size());
        int j = random.nextInt(parts.size());
        String other = switch (random.nextInt(6)) {
            case 0 -> "";
            case 1 -> String.valueOf(random.nextInt(oneOf(2) ? 9 : 70000));
            case 2 -> new String[] {"width", "set", "op", "word", "u", "s", "p", "0", "-", "[", ":"}[random.nextInt(11)];
            default -> text.substring(parts.start(j), parts.end(j));
        };
        boolean instead = oneOf(2);
        String behind = instead ? text.substring(parts.end(i)) : " " + text.substring(parts.start(i));
        return text.substring(0, parts.start(i)) + other + behind;
    }

    /** Blanks and ends of lines come between tokens, until there are up to 4,000 letters, or just so many. */
    String stretched(String text) {
        Parts parts = new Parts(text);
        int more = MOST_LETTERS - text.length() - parts.size();
        if (parts.size() == 0 || more < 0) {
            return text;
        }
        int at = random.nextInt(parts.size());
        StringBuilder stretched = new StringBuilder();
        for (int i = 0; i < parts.size(); i++) {
            int gap = i == at ? oneOf(2) ? more : random.nextInt(more + 1) : random.nextInt(2);
            stretched.append((oneOf(2) ? " " : "\n").repeat(gap)).append(text, i == 0 ? 0 : parts.end(i - 1), parts.end(i));
        }
        String all = stretched + text.substring(parts.end(parts.size() - 1));
        return oneOf(2) ? all + " ".repeat(Math.max(0, MOST_LETTERS - all.length())) : all;
    }
}
