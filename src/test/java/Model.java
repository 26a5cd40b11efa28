import java.util.ArrayList;
import java.util.LinkedHashMap;
import java.util.List;
import java.util.Map;
import java.util.Set;
import java.util.TreeMap;
import java.util.regex.Matcher;
import java.util.regex.Pattern;

/**
 * The document written down a second time, in another way than the class under test: with patterns, maps and texts of bits.
 * Its answers are texts, as those of Bench.
 */
final class Model {
    private static final Pattern TOKEN = Pattern.compile("[a-zA-Z_][a-zA-Z_0-9]{0,11}|0x[0-9a-f]{1,8}|[0-9]{1,32}|[^ \n]");
    private static final Set<String> KEYS = Set.of("width", "set", "op", "word", "u", "s", "p");

    /** A text is wrong, at a place. */
    private static final class Wrong extends RuntimeException {
        private static final long serialVersionUID = 1;
        final int at;

        Wrong(int at) {
            this.at = at;
        }
    }

    /** Kind is "u", "s", "p" or the NAME of a set. */
    record Operand(String name, String kind, int bits) {
        boolean hasSign() {
            return kind.equals("s") || kind.equals("p");
        }

        boolean isRegister() {
            return !KEYS.contains(kind);
        }

        boolean canBe(long value) {
            long half = 1L << bits - 1;
            return hasSign() ? value >= -half && value < half : value >= 0 && value < 2 * half;
        }
    }

    /** Cells are the bits of a word, the highest first: "0", "1", or "k.b", which is bit b of operand k. */
    record Op(String name, List<Operand> operands, List<String> cells) {
        private boolean isOf(String bits) {
            for (int i = 0; i < cells.size(); i++) {
                if (cells.get(i).length() == 1 && cells.get(i).charAt(0) != bits.charAt(i)) {
                    return false;
                }
            }
            return true;
        }

        private boolean sharesWordWith(Op other) {
            for (int i = 0; i < cells.size(); i++) {
                if (Set.of("0 1", "1 0").contains(cells.get(i) + " " + other.cells.get(i))) {
                    return false;
                }
            }
            return true;
        }

        private long value(String bits, int k) {
            Operand operand = operands.get(k);
            StringBuilder digits = new StringBuilder();
            for (int b = operand.bits() - 1; b >= 0; b--) {
                digits.append(bits.charAt(cells.indexOf(k + "." + b)));
            }
            long value = Long.parseLong(digits.toString(), 2);
            return operand.hasSign() && digits.charAt(0) == '1' ? value - (1L << operand.bits()) : value;
        }

        private int word(List<Long> values) {
            StringBuilder bits = new StringBuilder();
            for (String cell : cells) {
                int dot = cell.indexOf('.');
                bits.append(dot < 0 ? cell : String.valueOf(values.get(Integer.parseInt(cell.substring(0, dot)))
                        >> Integer.parseInt(cell.substring(dot + 1)) & 1));
            }
            return Integer.parseUnsignedInt(bits.toString(), 2);
        }
    }

    record Description(int width, Map<String, Integer> sets, List<Op> ops) {
        private String bits(int word) {
            return Long.toBinaryString(1L << 32 | word & 0xffffffffL).substring(33 - width);
        }

        private int opOf(int word) {
            for (int i = 0; i < ops.size(); i++) {
                if (ops.get(i).isOf(bits(word))) {
                    return i;
                }
            }
            return -1;
        }

        private String line(int word) {
            int op = opOf(word);
            if (op < 0) {
                return "word 0x" + String.format("%08x", word).substring(8 - width / 4) + ";";
            }
            List<String> shown = new ArrayList<>();
            for (int k = 0; k < ops.get(op).operands().size(); k++) {
                Operand operand = ops.get(op).operands().get(k);
                shown.add((operand.isRegister() ? operand.kind() : "") + ops.get(op).value(bits(word), k));
            }
            return ops.get(op).name() + (shown.isEmpty() ? "" : " ") + String.join(", ", shown) + ";";
        }
    }

    record Program(List<Integer> words, Map<String, Integer> labels) {
    }

    /** The tokens of a text, one after the other; behind the last one is the end, "". */
    private static final class Reader {
        private final List<String> tokens = new ArrayList<>();
        private final List<Integer> starts = new ArrayList<>();
        private int at = 0;

        Reader(String text) {
            for (int i = 0; i < text.length(); i++) {
                if (text.charAt(i) != '\n' && (text.charAt(i) < ' ' || text.charAt(i) > '~')) {
                    throw new Wrong(i);
                }
            }
            Matcher matcher = TOKEN.matcher(text);
            while (matcher.find()) {
                tokens.add(matcher.group());
                starts.add(matcher.start());
            }
            tokens.add("");
            starts.add(text.length());
        }

        String token() {
            return tokens.get(at);
        }

        String nextToken() {
            return tokens.get(Math.min(at + 1, tokens.size() - 1));
        }

        int start() {
            return starts.get(at);
        }

        boolean is(String token) {
            return token().equals(token);
        }

        boolean isName() {
            return token().matches("[a-zA-Z_].*") && !KEYS.contains(token());
        }

        void need(boolean right) {
            if (!right) {
                throw new Wrong(start());
            }
        }

        String take() {
            String token = token();
            at += token.isEmpty() ? 0 : 1;
            return token;
        }

        void take(String token) {
            need(is(token));
            take();
        }

        int takeNumber(int least, int most) {
            need(token().matches("[0-9]{1,4}"));
            int number = Integer.parseInt(token());
            need(number >= least && number <= most);
            take();
            return number;
        }

        long takeValue(Operand operand) {
            int begin = start();
            boolean negative = is("-");
            if (negative) {
                take();
            }
            need(token().matches("[0-9]{1,10}|0x.*"));
            long size = token().startsWith("0x") ? Long.parseLong(take().substring(2), 16) : Long.parseLong(take());
            long value = negative ? -size : size;
            if (!operand.canBe(value)) {
                throw new Wrong(begin);
            }
            return value;
        }
    }

    private final StringBuilder fed = new StringBuilder();
    private Description description = null;
    private Program program = null;
    private int wrongAt = -1;
    private String line = "";

    Description description() {
        return description;
    }

    Program program() {
        return program;
    }

    String feed(int a, int b, int c, int d, int e) {
        if (fed.length() == 4000) {
            return Bench.BOUNDS;
        }
        for (int four : new int[] {a, b, c, d, e}) {
            fed.append((char) (four >>> 24)).append((char) (four >> 16 & 255)).append((char) (four >> 8 & 255))
                    .append((char) (four & 255));
        }
        return String.valueOf(fed.length());
    }

    private void feed(String text) {
        fed.append(text).append("\0".repeat((20 - text.length() % 20) % 20));
    }

    String describe(String text) {
        feed(text);
        return describe(text.length());
    }

    String assemble(String text) {
        feed(text);
        return assemble(text.length());
    }

    String describe(int n) {
        if (n < 0 || n > fed.length()) {
            return Bench.BOUNDS;
        }
        String text = takeFed(n);
        program = null;
        description = null;
        try {
            description = readDescription(new Reader(text));
            return String.valueOf(description.ops().size());
        } catch (Wrong wrong) {
            wrongAt = wrong.at;
            return Bench.ARGUMENT;
        }
    }

    String assemble(int n) {
        if (n < 0 || n > fed.length()) {
            return Bench.BOUNDS;
        }
        if (description == null) {
            return Bench.STATE;
        }
        String text = takeFed(n);
        program = null;
        try {
            program = readProgram(new Reader(text));
            return String.valueOf(program.words().size());
        } catch (Wrong wrong) {
            wrongAt = wrong.at;
            return Bench.ARGUMENT;
        }
    }

    private String takeFed(int n) {
        String text = fed.substring(0, n);
        fed.setLength(0);
        wrongAt = -1;
        return text;
    }

    String wrong() {
        return String.valueOf(wrongAt);
    }

    String word(int k) {
        return program == null || k < 0 || k >= program.words().size() ? Bench.BOUNDS : String.valueOf(program.words().get(k));
    }

    String op(int word) {
        return description == null ? Bench.STATE : String.valueOf(description.opOf(word));
    }

    String operand(int word, int k) {
        if (description == null) {
            return Bench.STATE;
        }
        int op = description.opOf(word);
        if (op < 0 || k < 0 || k >= description.ops().get(op).operands().size()) {
            return Bench.BOUNDS;
        }
        return String.valueOf(description.ops().get(op).value(description.bits(word), k));
    }

    String encode(int op, List<Long> values) {
        if (description == null) {
            return Bench.STATE;
        }
        if (op < 0 || op >= description.ops().size()) {
            return Bench.BOUNDS;
        }
        List<Operand> operands = description.ops().get(op).operands();
        for (int k = 0; k < operands.size(); k++) {
            if (!operands.get(k).canBe(values.get(k))) {
                return Bench.ARGUMENT;
            }
        }
        return String.valueOf(description.ops().get(op).word(values));
    }

    String text(int word) {
        if (description == null) {
            return Bench.STATE;
        }
        line = description.line(word);
        return String.valueOf(line.length());
    }

    String letters(int k) {
        if (k < 0 || 8L * k >= line.length()) {
            return Bench.BOUNDS;
        }
        long eight = 0;
        for (char letter : (line + "\0".repeat(8)).substring(8 * k, 8 * k + 8).toCharArray()) {
            eight = eight * 256 + letter;
        }
        return String.valueOf(eight);
    }

    String count(int what) {
        boolean described = description != null;
        boolean assembled = program != null;
        return switch (what) {
            case 0 -> String.valueOf(described ? description.width() : 0);
            case 1 -> String.valueOf(described ? description.sets().size() : 0);
            case 2 -> String.valueOf(described ? description.ops().size() : 0);
            case 3 -> String.valueOf(assembled ? program.words().size() : 0);
            case 4 -> String.valueOf(assembled ? program.labels().size() : 0);
            case 5 -> String.valueOf(fed.length());
            default -> Bench.ARGUMENT;
        };
    }

    private static Description readDescription(Reader reader) {
        reader.take("width");
        int widthAt = reader.start();
        int width = reader.takeNumber(0, 9999);
        if (!List.of(8, 16, 24, 32).contains(width)) {
            throw new Wrong(widthAt);
        }
        reader.take(";");
        Description read = new Description(width, new LinkedHashMap<>(), new ArrayList<>());
        while (!reader.is("")) {
            if (reader.is("set")) {
                reader.need(read.sets().size() < 12);
                reader.take();
                reader.need(reader.isName() && reader.token().length() <= 10 && !read.sets().containsKey(reader.token()));
                read.sets().put(reader.take(), reader.takeNumber(1, 6));
            } else {
                reader.need(reader.is("op") && read.ops().size() < 60);
                reader.take();
                readOp(reader, read);
            }
            reader.take(";");
        }
        return read;
    }

    private static void readOp(Reader reader, Description read) {
        int nameAt = reader.start();
        reader.need(reader.isName() && read.ops().stream().noneMatch(op -> reader.is(op.name())));
        Op op = new Op(reader.take(), new ArrayList<>(), new ArrayList<>());
        while (!reader.is("=")) {
            if (!op.operands().isEmpty()) {
                reader.take(",");
            }
            reader.need(op.operands().size() < 6);
            op.operands().add(readOperand(reader, op, read));
        }
        reader.take("=");
        int bits = 0;
        do {
            readField(reader, op, read.width());
        } while (!reader.is(";"));
        for (Operand operand : op.operands()) {
            bits += operand.bits();
        }
        long laid = op.cells().stream().filter(cell -> cell.length() > 1).count();
        reader.need(op.cells().size() == read.width() && laid == bits);
        if (read.ops().stream().anyMatch(op::sharesWordWith)) {
            throw new Wrong(nameAt);
        }
        read.ops().add(op);
    }

    private static Operand readOperand(Reader reader, Op op, Description read) {
        reader.need(reader.isName() && op.operands().stream().noneMatch(operand -> reader.is(operand.name())));
        String name = reader.take();
        reader.take(":");
        if (reader.is("u") || reader.is("s") || reader.is("p")) {
            return new Operand(name, reader.take(), reader.takeNumber(1, read.width()));
        }
        reader.need(read.sets().containsKey(reader.token()));
        return new Operand(name, reader.token(), read.sets().get(reader.take()));
    }

    private static void readField(Reader reader, Op op, int width) {
        int begin = reader.start();
        List<String> field = new ArrayList<>();
        if (reader.token().matches("[01]+")) {
            field.addAll(List.of(reader.take().split("")));
        } else {
            int k = 0;
            while (k < op.operands().size() && !reader.is(op.operands().get(k).name())) {
                k++;
            }
            reader.need(k < op.operands().size());
            reader.take();
            int high = op.operands().get(k).bits() - 1;
            int low = 0;
            if (reader.is("[")) {
                reader.take();
                high = reader.takeNumber(0, high);
                reader.take(":");
                low = reader.takeNumber(0, high);
                reader.take("]");
            }
            for (int b = high; b >= low; b--) {
                field.add(k + "." + b);
            }
        }
        boolean twice = field.stream().anyMatch(cell -> cell.length() > 1 && op.cells().contains(cell));
        if (twice || op.cells().size() + field.size() > width) {
            throw new Wrong(begin);
        }
        op.cells().addAll(field);
    }

    /** A word that is read: its op, or none if it is as it is, and its values. */
    private record Read(Op op, List<Long> values) {
    }

    private Program readProgram(Reader reader) {
        List<Read> reads = new ArrayList<>();
        Map<String, Integer> labels = new LinkedHashMap<>();
        // Of each label in V where it begins, and which label, word and operand it is.
        Map<Integer, Object[]> wanted = new TreeMap<>();
        while (!reader.is("")) {
            if (reader.isName() && reader.nextToken().equals(":")) {
                reader.need(labels.size() < 60 && !labels.containsKey(reader.token()));
                labels.put(reader.take(), reads.size());
                reader.take(":");
            } else {
                reads.add(readWord(reader, reads.size(), wanted));
                reader.take(";");
            }
        }
        for (Map.Entry<Integer, Object[]> entry : wanted.entrySet()) {
            Integer place = labels.get((String) entry.getValue()[0]);
            int word = (Integer) entry.getValue()[1];
            int k = (Integer) entry.getValue()[2];
            if (place == null || !reads.get(word).op().operands().get(k).canBe(place - word)) {
                throw new Wrong(entry.getKey());
            }
            reads.get(word).values().set(k, (long) place - word);
        }
        List<Integer> words = new ArrayList<>();
        for (Read read : reads) {
            words.add(read.op() == null ? (int) (long) read.values().get(0) : read.op().word(read.values()));
        }
        return new Program(words, labels);
    }

    private Read readWord(Reader reader, int place, Map<Integer, Object[]> wanted) {
        List<Long> values = new ArrayList<>();
        reader.need(place < 1000);
        if (reader.is("word")) {
            reader.take();
            values.add(reader.takeValue(new Operand("", "u", description.width())));
            return new Read(null, values);
        }
        Op op = description.ops().stream().filter(one -> reader.is(one.name())).findFirst().orElse(null);
        reader.need(op != null);
        reader.take();
        for (int k = 0; k < op.operands().size(); k++) {
            if (k > 0) {
                reader.take(",");
            }
            Operand operand = op.operands().get(k);
            if (operand.isRegister()) {
                values.add(readRegister(reader, operand));
            } else if (operand.kind().equals("p") && reader.isName()) {
                wanted.put(reader.start(), new Object[] {reader.take(), place, k});
                values.add(0L);
            } else {
                values.add(reader.takeValue(operand));
            }
        }
        return new Read(op, values);
    }

    private static long readRegister(Reader reader, Operand operand) {
        for (long number = 0; operand.canBe(number); number++) {
            if (reader.is(operand.kind() + number)) {
                reader.take();
                return number;
            }
        }
        throw new Wrong(reader.start());
    }
}
