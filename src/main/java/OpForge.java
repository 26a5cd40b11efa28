import java.util.Arrays;

/**
 * An assembler and a disassembler, made from a description of instructions.
 *
 * <p>All rows are made once, with the object, and used again by every call: a call makes no object
 * but the exception that it throws.
 */
public final class OpForge {
    private static final int MOST_OCTETS = 4000;
    private static final int OCTETS_OF_A_FEED = 20;
    private static final int MOST_SETS = 12;
    private static final int MOST_OPS = 60;
    private static final int MOST_OPERANDS = 6;
    private static final int MOST_WORDS = 1000;
    private static final int MOST_LABELS = 60;
    private static final int MOST_BITS = 32;

    private static final int LETTERS_OF_A_NAME = 12;
    private static final int LETTERS_OF_A_SET = 10;
    private static final int LETTERS_OF_DIGITS = 32;
    private static final int LETTERS_OF_HEX = 8;
    private static final int LETTERS_OF_A_COUNT = 4;
    private static final int LETTERS_OF_A_VALUE = 10;
    private static final int BITS_OF_A_SET = 6;

    // The NAME of an op, six operands of at most 12 letters, ", " between them, a blank and a ";".
    private static final int LETTERS_OF_A_LINE = 96;

    // Kinds of TOKENS. A letter that is a TOKEN by itself is its own kind, so these begin above all letters.
    private static final int END = 128;
    private static final int NAME = 129;
    private static final int DIGITS = 130;
    private static final int HEX = 131;
    private static final int WIDTH = 132;
    private static final int SET = 133;
    private static final int OP = 134;
    private static final int WORD = 135;
    // These three, and REGISTER, are the kinds of operands, too.
    private static final int UNSIGNED = 136;
    private static final int SIGNED = 137;
    private static final int PLACE = 138;
    private static final int REGISTER = 139;

    private static final int NONE = -1;

    private final int[] octets = new int[MOST_OCTETS];
    private final long[] values = new long[MOST_OPERANDS];
    private final Tokens tokens = new Tokens(octets);
    private final Description description = new Description();
    private final Program program = new Program();
    private final Describer describer = new Describer(tokens, description);
    private final Assembler assembler = new Assembler(tokens, description, program);
    private final Line line = new Line();
    private int fed = 0;

    public OpForge() {
    }

    public int feed(int a, int b, int c, int d, int e) throws IndexOutOfBoundsException {
        if (fed + OCTETS_OF_A_FEED > MOST_OCTETS) {
            throw new IndexOutOfBoundsException("more than 4,000 octets");
        }
        addFour(a);
        addFour(b);
        addFour(c);
        addFour(d);
        addFour(e);
        return fed;
    }

    public int describe(int n) throws IndexOutOfBoundsException, IllegalArgumentException {
        needFed(n);
        fed = 0;
        program.stands = false;
        description.stands = false;
        tokens.open(n);
        describer.readDescription();
        description.stands = true;
        return description.opNames.size;
    }

    public int assemble(int n)
            throws IndexOutOfBoundsException, IllegalStateException, IllegalArgumentException {
        needFed(n);
        needDescription();
        fed = 0;
        program.stands = false;
        tokens.open(n);
        assembler.readProgram();
        program.stands = true;
        return program.size;
    }

    public int wrong() {
        return tokens.wrongAt;
    }

    public int word(int k) throws IndexOutOfBoundsException {
        if (!program.stands || k < 0 || k >= program.size) {
            throw new IndexOutOfBoundsException("no such word");
        }
        return program.words[k];
    }

    public int op(int word) throws IllegalStateException {
        needDescription();
        return description.opOf(word);
    }

    public long operand(int word, int k) throws IllegalStateException, IndexOutOfBoundsException {
        needDescription();
        int owner = description.opOf(word);
        if (owner < 0 || k < 0 || k >= description.ops[owner].size) {
            throw new IndexOutOfBoundsException("no such operand");
        }
        return description.ops[owner].operands[k].gather(word);
    }

    public int encode(int op, long a, long b, long c, long d, long e, long f)
            throws IllegalStateException, IndexOutOfBoundsException, IllegalArgumentException {
        needDescription();
        if (op < 0 || op >= description.opNames.size) {
            throw new IndexOutOfBoundsException("no such op");
        }
        values[0] = a;
        values[1] = b;
        values[2] = c;
        values[3] = d;
        values[4] = e;
        values[5] = f;
        return compose(description.ops[op]);
    }

    public int text(int word) throws IllegalStateException {
        needDescription();
        line.write(description, word);
        return line.size;
    }

    public long letters(int k) throws IndexOutOfBoundsException {
        if (k < 0 || k >= (line.size + 7) / 8) {
            throw new IndexOutOfBoundsException("no such letters");
        }
        return line.eightFrom(8 * k);
    }

    public int count(int what) throws IllegalArgumentException {
        switch (what) {
            case 0:
                return description.stands ? description.width : 0;
            case 1:
                return description.stands ? description.setNames.size : 0;
            case 2:
                return description.stands ? description.opNames.size : 0;
            case 3:
                return program.stands ? program.size : 0;
            case 4:
                return program.stands ? program.labels.size : 0;
            case 5:
                return fed;
            default:
                throw new IllegalArgumentException("nothing to count");
        }
    }

    private void addFour(int four) {
        for (int shift = 24; shift >= 0; shift -= 8) {
            octets[fed] = (four >>> shift) & 255;
            fed++;
        }
    }

    private void needFed(int n) {
        if (n < 0 || n > fed) {
            throw new IndexOutOfBoundsException("not so much is fed");
        }
    }

    private void needDescription() {
        if (!description.stands) {
            throw new IllegalStateException("no description");
        }
    }

    private int compose(Op op) {
        int word = op.pattern;
        for (int k = 0; k < op.size; k++) {
            if (!op.operands[k].canBe(values[k])) {
                throw new IllegalArgumentException("an operand can not be that");
            }
            word |= op.operands[k].spread(values[k]);
        }
        return word;
    }

    private static boolean isBlank(int letter) {
        return letter == ' ' || letter == '\n';
    }

    private static boolean isDigit(int letter) {
        return letter >= '0' && letter <= '9';
    }

    private static boolean isHexDigit(int letter) {
        return isDigit(letter) || letter >= 'a' && letter <= 'f';
    }

    private static boolean beginsName(int letter) {
        return letter >= 'a' && letter <= 'z' || letter >= 'A' && letter <= 'Z' || letter == '_';
    }

    /** Parts a TEXT into TOKENS: their kinds, where they start, and where what is behind them starts. */
    private static final class Splitter {
        final int[] letters;
        final int[] kinds = new int[MOST_OCTETS + 1];
        final int[] starts = new int[MOST_OCTETS + 1];
        final int[] ends = new int[MOST_OCTETS + 1];
        private int length = 0;
        private int size = 0;

        Splitter(int[] letters) {
            this.letters = letters;
        }

        int firstForbidden(int n) {
            for (int at = 0; at < n; at++) {
                if (letters[at] != '\n' && (letters[at] < 32 || letters[at] > 126)) {
                    return at;
                }
            }
            return NONE;
        }

        void split(int n) {
            length = n;
            size = 0;
            int behind = 0;
            for (int at = 0; at < n; at++) {
                if (at >= behind && !isBlank(letters[at])) {
                    behind = endOfToken(at);
                    addToken(kindOfToken(at, behind), at, behind);
                }
            }
            addToken(END, n, n);
        }

        private void addToken(int kind, int start, int end) {
            kinds[size] = kind;
            starts[size] = start;
            ends[size] = end;
            size++;
        }

        private int endOfToken(int start) {
            if (beginsName(letters[start])) {
                return endOfName(start);
            }
            if (beginsHex(start)) {
                return endOfHex(start);
            }
            return isDigit(letters[start]) ? endOfDigits(start) : start + 1;
        }

        private int endOfName(int start) {
            int limit = Math.min(length, start + LETTERS_OF_A_NAME);
            int at = start;
            while (at < limit && (beginsName(letters[at]) || isDigit(letters[at]))) {
                at++;
            }
            return at;
        }

        private int endOfDigits(int start) {
            int limit = Math.min(length, start + LETTERS_OF_DIGITS);
            int at = start;
            while (at < limit && isDigit(letters[at])) {
                at++;
            }
            return at;
        }

        private boolean beginsHex(int start) {
            return start + 2 < length && letters[start] == '0' && letters[start + 1] == 'x'
                    && isHexDigit(letters[start + 2]);
        }

        private int endOfHex(int start) {
            int limit = Math.min(length, start + 2 + LETTERS_OF_HEX);
            int at = start + 2;
            while (at < limit && isHexDigit(letters[at])) {
                at++;
            }
            return at;
        }

        private int kindOfToken(int start, int end) {
            if (beginsName(letters[start])) {
                return kindOfName(start, end);
            }
            if (beginsHex(start)) {
                return HEX;
            }
            return isDigit(letters[start]) ? DIGITS : letters[start];
        }

        private int kindOfName(int start, int end) {
            if (spells("width", start, end)) {
                return WIDTH;
            }
            if (spells("set", start, end)) {
                return SET;
            }
            if (spells("op", start, end)) {
                return OP;
            }
            if (spells("word", start, end)) {
                return WORD;
            }
            if (spells("u", start, end)) {
                return UNSIGNED;
            }
            if (spells("s", start, end)) {
                return SIGNED;
            }
            return spells("p", start, end) ? PLACE : NAME;
        }

        private boolean spells(String key, int start, int end) {
            if (end - start != key.length()) {
                return false;
            }
            for (int i = 0; i < key.length(); i++) {
                if (letters[start + i] != key.charAt(i)) {
                    return false;
                }
            }
            return true;
        }
    }

    /** Goes through the TOKENS of a TEXT: one is looked at, from start to before end, until it is taken. */
    private static final class Tokens {
        final int[] letters;
        private final Splitter splitter;
        private int index = 0;
        int kind = END;
        int start = 0;
        int end = 0;
        int wrongAt = NONE;

        Tokens(int[] letters) {
            this.letters = letters;
            splitter = new Splitter(letters);
        }

        void open(int n) {
            wrongAt = NONE;
            int forbidden = splitter.firstForbidden(n);
            if (forbidden >= 0) {
                refuse(forbidden);
            }
            splitter.split(n);
            index = 0;
            look();
        }

        // Whoever reads is far below the call that asked: only a throw ends all of it at once.
        void refuse(int at) {
            wrongAt = at;
            throw new IllegalArgumentException("the text is wrong");
        }

        private void look() {
            kind = splitter.kinds[index];
            start = splitter.starts[index];
            end = splitter.ends[index];
        }

        void advance() {
            if (kind != END) {
                index++;
            }
            look();
        }

        void take(int wanted) {
            if (kind != wanted) {
                refuse(start);
            }
            advance();
        }

        void takeNewName(Names names, int longest) {
            if (kind != NAME || end - start > longest || names.find(letters, start, end) >= 0) {
                refuse(start);
            }
            names.add(letters, start, end);
            advance();
        }

        /** An N of the document, from least to most. */
        int takeCount(int least, int most) {
            if (kind != DIGITS || end - start > LETTERS_OF_A_COUNT) {
                refuse(start);
            }
            int number = (int) decimal();
            if (number < least || number > most) {
                refuse(start);
            }
            advance();
            return number;
        }

        /** A V of the document that is a number, from least to most. */
        long takeValue(long least, long most) {
            int begin = start;
            boolean negative = kind == '-';
            if (negative) {
                advance();
            }
            if (kind != HEX && (kind != DIGITS || end - start > LETTERS_OF_A_VALUE)) {
                refuse(start);
            }
            long size = kind == HEX ? hexadecimal() : decimal();
            long number = negative ? -size : size;
            if (number < least || number > most) {
                refuse(begin);
            }
            advance();
            return number;
        }

        private long decimal() {
            long number = 0;
            for (int at = start; at < end; at++) {
                number = number * 10 + (letters[at] - '0');
            }
            return number;
        }

        private long hexadecimal() {
            long number = 0;
            for (int at = start + 2; at < end; at++) {
                int digit = isDigit(letters[at]) ? letters[at] - '0' : letters[at] - 'a' + 10;
                number = number * 16 + digit;
            }
            return number;
        }
    }

    /** NAMES of one sort, in their order. They are copied, for what is fed next overwrites the TEXT. */
    private static final class Names {
        final int[] letters;
        final int[] lengths;
        int size = 0;

        Names(int most) {
            letters = new int[most * LETTERS_OF_A_NAME];
            lengths = new int[most];
        }

        void add(int[] from, int start, int end) {
            if (size < lengths.length && end - start <= LETTERS_OF_A_NAME) {
                lengths[size] = end - start;
                System.arraycopy(from, start, letters, size * LETTERS_OF_A_NAME, end - start);
                size++;
            }
        }

        int find(int[] from, int start, int end) {
            for (int i = 0; i < size; i++) {
                if (lengths[i] == end - start && begins(i, from, start)) {
                    return i;
                }
            }
            return NONE;
        }

        private boolean begins(int i, int[] from, int start) {
            for (int j = 0; j < lengths[i]; j++) {
                if (letters[i * LETTERS_OF_A_NAME + j] != from[start + j]) {
                    return false;
                }
            }
            return true;
        }

        /** How many letters behind NAME i there are, NONE if it does not come first. */
        int lettersBehind(int i, int[] from, int start, int end) {
            int behind = end - start - lengths[i];
            return behind >= 0 && begins(i, from, start) ? behind : NONE;
        }
    }

    /** An operand of an op: what it can be, and where in a WORD each of its bits stands. */
    private static final class Operand {
        final int[] places = new int[MOST_BITS];
        int kind = UNSIGNED;
        int size = 0;
        int set = NONE;

        void begin(int newKind, int newSize, int newSet) {
            kind = newKind;
            size = newSize;
            set = newSet;
            Arrays.fill(places, NONE);
        }

        private boolean hasSign() {
            return kind == SIGNED || kind == PLACE;
        }

        long least() {
            return hasSign() ? -(1L << (size - 1)) : 0;
        }

        long most() {
            return hasSign() ? (1L << (size - 1)) - 1 : (1L << size) - 1;
        }

        boolean canBe(long value) {
            return value >= least() && value <= most();
        }

        boolean standsNowhere(int high, int low) {
            for (int bit = low; bit <= high; bit++) {
                if (places[bit] != NONE) {
                    return false;
                }
            }
            return true;
        }

        boolean standsWhole() {
            for (int bit = 0; bit < size; bit++) {
                if (places[bit] == NONE) {
                    return false;
                }
            }
            return true;
        }

        void lay(int high, int low, int highestPlace) {
            for (int bit = low; bit <= high; bit++) {
                places[bit] = highestPlace - (high - bit);
            }
        }

        int spread(long value) {
            int word = 0;
            for (int bit = 0; bit < size; bit++) {
                word |= (int) ((value >>> bit) & 1) << places[bit];
            }
            return word;
        }

        long gather(int word) {
            long value = 0;
            for (int bit = 0; bit < size; bit++) {
                value |= (long) ((word >>> places[bit]) & 1) << bit;
            }
            return value > most() ? value - (1L << size) : value;
        }
    }

    /** An instruction: the bits that are always the same, and its operands. */
    private static final class Op {
        final Operand[] operands = new Operand[MOST_OPERANDS];
        int size = 0;
        int laid = 0;
        int mask = 0;
        int pattern = 0;

        Op() {
            for (int k = 0; k < MOST_OPERANDS; k++) {
                operands[k] = new Operand();
            }
        }

        void begin() {
            size = 0;
            laid = 0;
            mask = 0;
            pattern = 0;
        }

        boolean isWhole(int width) {
            for (int k = 0; k < size; k++) {
                if (!operands[k].standsWhole()) {
                    return false;
                }
            }
            return laid == width;
        }

        boolean owns(int word) {
            return (word & mask) == pattern;
        }

        // Bits that only one of the two fixes can be chosen, so just those that both fix part them.
        boolean sharesWordWith(Op other) {
            return ((pattern ^ other.pattern) & mask & other.mask) == 0;
        }
    }

    private static final class Description {
        final Names setNames = new Names(MOST_SETS);
        final int[] setSizes = new int[MOST_SETS];
        final Names opNames = new Names(MOST_OPS);
        final Op[] ops = new Op[MOST_OPS];
        int width = 0;
        boolean stands = false;

        Description() {
            for (int i = 0; i < MOST_OPS; i++) {
                ops[i] = new Op();
            }
        }

        int opOf(int word) {
            for (int i = 0; i < opNames.size; i++) {
                if (ops[i].owns(word)) {
                    return i;
                }
            }
            return NONE;
        }
    }

    private static final class Program {
        final int[] words = new int[MOST_WORDS];
        final Names labels = new Names(MOST_LABELS);
        final int[] places = new int[MOST_LABELS];
        int size = 0;
        boolean stands = false;
    }

    /** Reads THE DESCRIPTION. */
    private static final class Describer {
        private final Tokens tokens;
        private final Description description;
        private final Names operandNames = new Names(MOST_OPERANDS);

        Describer(Tokens tokens, Description description) {
            this.tokens = tokens;
            this.description = description;
        }

        void readDescription() {
            description.setNames.size = 0;
            description.opNames.size = 0;
            readWidth();
            for (int turn = 0; turn < MOST_OCTETS && tokens.kind != END; turn++) {
                if (tokens.kind == SET) {
                    readSet();
                } else if (tokens.kind == OP) {
                    readOp();
                } else {
                    tokens.refuse(tokens.start);
                }
            }
        }

        private void readWidth() {
            tokens.take(WIDTH);
            int at = tokens.start;
            int width = tokens.takeCount(8, MOST_BITS);
            if (width % 8 != 0) {
                tokens.refuse(at);
            }
            description.width = width;
            tokens.take(';');
        }

        private void readSet() {
            int index = description.setNames.size;
            if (index >= MOST_SETS) {
                tokens.refuse(tokens.start);
            }
            tokens.advance();
            tokens.takeNewName(description.setNames, LETTERS_OF_A_SET);
            description.setSizes[index] = tokens.takeCount(1, BITS_OF_A_SET);
            tokens.take(';');
        }

        private void readOp() {
            int index = description.opNames.size;
            if (index >= MOST_OPS) {
                tokens.refuse(tokens.start);
            }
            tokens.advance();
            int nameAt = tokens.start;
            tokens.takeNewName(description.opNames, LETTERS_OF_A_NAME);
            Op op = description.ops[index];
            op.begin();
            readOperands(op);
            tokens.take('=');
            readFields(op);
            if (!op.isWhole(description.width)) {
                tokens.refuse(tokens.start);
            }
            if (sharesWordWithEarlier(index)) {
                tokens.refuse(nameAt);
            }
            tokens.take(';');
        }

        private boolean sharesWordWithEarlier(int index) {
            for (int i = 0; i < index; i++) {
                if (description.ops[i].sharesWordWith(description.ops[index])) {
                    return true;
                }
            }
            return false;
        }

        private void readOperands(Op op) {
            operandNames.size = 0;
            if (tokens.kind == '=') {
                return;
            }
            readOperand(op);
            for (int turn = 0; turn < MOST_OCTETS && tokens.kind == ','; turn++) {
                tokens.advance();
                readOperand(op);
            }
        }

        private void readOperand(Op op) {
            if (op.size >= MOST_OPERANDS) {
                tokens.refuse(tokens.start);
            }
            tokens.takeNewName(operandNames, LETTERS_OF_A_NAME);
            tokens.take(':');
            Operand operand = op.operands[op.size];
            int kind = tokens.kind;
            if (kind == UNSIGNED || kind == SIGNED || kind == PLACE) {
                tokens.advance();
                operand.begin(kind, tokens.takeCount(1, description.width), NONE);
            } else {
                int set = description.setNames.find(tokens.letters, tokens.start, tokens.end);
                if (set < 0) {
                    tokens.refuse(tokens.start);
                }
                tokens.advance();
                operand.begin(REGISTER, description.setSizes[set], set);
            }
            op.size++;
        }

        // An op without any field is refused where it ends, for its bits are too few.
        private void readFields(Op op) {
            for (int turn = 0; turn < MOST_OCTETS && tokens.kind != ';'; turn++) {
                if (tokens.kind == DIGITS) {
                    readFixedBits(op);
                } else {
                    readOperandBits(op);
                }
            }
        }

        private void readFixedBits(Op op) {
            if (op.laid + (tokens.end - tokens.start) > description.width) {
                tokens.refuse(tokens.start);
            }
            for (int at = tokens.start; at < tokens.end; at++) {
                int bit = tokens.letters[at] - '0';
                if (bit > 1) {
                    tokens.refuse(tokens.start);
                }
                int place = description.width - 1 - op.laid;
                op.mask |= 1 << place;
                op.pattern |= bit << place;
                op.laid++;
            }
            tokens.advance();
        }

        private void readOperandBits(Op op) {
            int at = tokens.start;
            int k = operandNames.find(tokens.letters, at, tokens.end);
            if (k < 0) {
                tokens.refuse(at);
            }
            tokens.advance();
            Operand operand = op.operands[k];
            int high = operand.size - 1;
            int low = 0;
            if (tokens.kind == '[') {
                tokens.advance();
                high = tokens.takeCount(0, high);
                tokens.take(':');
                low = tokens.takeCount(0, high);
                tokens.take(']');
            }
            int bits = high - low + 1;
            if (op.laid + bits > description.width || !operand.standsNowhere(high, low)) {
                tokens.refuse(at);
            }
            operand.lay(high, low, description.width - 1 - op.laid);
            op.laid += bits;
        }
    }

    /** Reads THE PROGRAM. */
    private static final class Assembler {
        // A label in V has a letter of its own and one that parts it from what follows.
        private static final int MOST_WANTED = MOST_OCTETS / 2;

        private final Tokens tokens;
        private final Description description;
        private final Program program;
        private final int[] wantedStarts = new int[MOST_WANTED];
        private final int[] wantedEnds = new int[MOST_WANTED];
        private final int[] wantedWords = new int[MOST_WANTED];
        private final int[] wantedOps = new int[MOST_WANTED];
        private final int[] wantedOperands = new int[MOST_WANTED];
        private int wanted = 0;

        Assembler(Tokens tokens, Description description, Program program) {
            this.tokens = tokens;
            this.description = description;
            this.program = program;
        }

        void readProgram() {
            program.size = 0;
            program.labels.size = 0;
            wanted = 0;
            for (int turn = 0; turn < MOST_OCTETS && tokens.kind != END; turn++) {
                if (tokens.kind == WORD) {
                    readPlainWord();
                } else {
                    readNamed();
                }
            }
            for (int i = 0; i < wanted; i++) {
                fillWanted(i);
            }
        }

        private void readPlainWord() {
            if (program.size >= MOST_WORDS) {
                tokens.refuse(tokens.start);
            }
            tokens.advance();
            addWord((int) tokens.takeValue(0, (1L << description.width) - 1));
            tokens.take(';');
        }

        private void readNamed() {
            if (tokens.kind != NAME) {
                tokens.refuse(tokens.start);
            }
            int start = tokens.start;
            int end = tokens.end;
            int op = description.opNames.find(tokens.letters, start, end);
            tokens.advance();
            if (tokens.kind == ':') {
                addLabel(start, end);
                tokens.advance();
                return;
            }
            if (op < 0 || program.size >= MOST_WORDS) {
                tokens.refuse(start);
            }
            addWord(readOperands(op));
            tokens.take(';');
        }

        private void addWord(int word) {
            program.words[program.size] = word;
            program.size++;
        }

        private void addLabel(int start, int end) {
            Names labels = program.labels;
            if (labels.size >= MOST_LABELS || labels.find(tokens.letters, start, end) >= 0) {
                tokens.refuse(start);
            }
            program.places[labels.size] = program.size;
            labels.add(tokens.letters, start, end);
        }

        private int readOperands(int op) {
            int word = description.ops[op].pattern;
            for (int k = 0; k < description.ops[op].size; k++) {
                if (k > 0) {
                    tokens.take(',');
                }
                word |= readOperand(op, k);
            }
            return word;
        }

        private int readOperand(int op, int k) {
            Operand operand = description.ops[op].operands[k];
            if (operand.kind == REGISTER) {
                int number = registerNumber(operand.set);
                tokens.advance();
                return operand.spread(number);
            }
            if (operand.kind == PLACE && tokens.kind == NAME) {
                wantLabel(op, k);
                return 0;
            }
            return operand.spread(tokens.takeValue(operand.least(), operand.most()));
        }

        // No TOKEN but a NAME begins with the NAME of a set, so its kind needs no look.
        private int registerNumber(int set) {
            int digits = description.setNames.lettersBehind(set, tokens.letters, tokens.start, tokens.end);
            int first = tokens.end - digits;
            if (digits < 1 || digits > 1 && tokens.letters[first] == '0') {
                tokens.refuse(tokens.start);
            }
            int number = 0;
            for (int at = first; at < tokens.end; at++) {
                number = number * 10 + (tokens.letters[at] - '0');
                if (!isDigit(tokens.letters[at]) || number >= 1 << description.setSizes[set]) {
                    tokens.refuse(tokens.start);
                }
            }
            return number;
        }

        // A label may stand behind its use, so its bits are filled in when all labels are known.
        private void wantLabel(int op, int k) {
            if (wanted < MOST_WANTED) {
                wantedStarts[wanted] = tokens.start;
                wantedEnds[wanted] = tokens.end;
                wantedWords[wanted] = program.size;
                wantedOps[wanted] = op;
                wantedOperands[wanted] = k;
                wanted++;
            }
            tokens.advance();
        }

        private void fillWanted(int i) {
            int label = program.labels.find(tokens.letters, wantedStarts[i], wantedEnds[i]);
            if (label < 0) {
                tokens.refuse(wantedStarts[i]);
            }
            Operand operand = description.ops[wantedOps[i]].operands[wantedOperands[i]];
            int distance = program.places[label] - wantedWords[i];
            if (!operand.canBe(distance)) {
                tokens.refuse(wantedStarts[i]);
            }
            program.words[wantedWords[i]] |= operand.spread(distance);
        }
    }

    /** TEXT of a WORD. */
    private static final class Line {
        private final int[] letters = new int[LETTERS_OF_A_LINE];
        int size = 0;

        void write(Description description, int word) {
            size = 0;
            int op = description.opOf(word);
            if (op < 0) {
                putPlainWord(word, description.width);
            } else {
                putName(description.opNames, op);
                putOperands(description, op, word);
            }
            put(';');
        }

        long eightFrom(int first) {
            long eight = 0;
            for (int at = first; at < first + 8; at++) {
                eight = eight << 8 | (at < size ? letters[at] : 0);
            }
            return eight;
        }

        private void put(int letter) {
            if (size < letters.length) {
                letters[size] = letter;
                size++;
            }
        }

        private void putAll(String some) {
            for (int i = 0; i < some.length(); i++) {
                put(some.charAt(i));
            }
        }

        private void putName(Names names, int i) {
            for (int j = 0; j < names.lengths[i]; j++) {
                put(names.letters[i * LETTERS_OF_A_NAME + j]);
            }
        }

        private void putPlainWord(int word, int width) {
            putAll("word 0x");
            for (int shift = width - 4; shift >= 0; shift -= 4) {
                int digit = (word >>> shift) & 15;
                put(digit < 10 ? '0' + digit : 'a' + digit - 10);
            }
        }

        private void putOperands(Description description, int op, int word) {
            for (int k = 0; k < description.ops[op].size; k++) {
                Operand operand = description.ops[op].operands[k];
                putAll(k == 0 ? " " : ", ");
                if (operand.kind == REGISTER) {
                    putName(description.setNames, operand.set);
                }
                putNumber(operand.gather(word));
            }
        }

        private void putNumber(long number) {
            if (number < 0) {
                put('-');
            }
            long rest = Math.abs(number);
            long unit = 1;
            for (int digits = 1; digits < LETTERS_OF_A_VALUE && rest / unit >= 10; digits++) {
                unit *= 10;
            }
            for (long u = unit; u > 0; u /= 10) {
                put('0' + (int) (rest / u % 10));
            }
        }
    }
}
