/**
 * An assembler for small modules of functions: it reads their text, checks it,
 * writes the module as bytes, and prints it as text again.
 */
public final class StackAssembler {
    private static final int TEXT_LIMIT = 320;
    private static final int FUNCTION_LIMIT = 4;
    private static final int PARAMETER_LIMIT = 6;
    private static final int SLOT_LIMIT = 8;
    private static final int ROW_LIMIT = 64;
    private static final int DEPTH_LIMIT = 12;

    // Types of values, and the results that a function or a block may have.
    private static final int NONE = 0;
    private static final int I = 1;
    private static final int J = 2;
    private static final int ANY = 3;

    // What stands behind the word of an instruction.
    private static final int BARE = 0;
    private static final int RESULT = 1;
    private static final int LABEL = 2;
    private static final int FUNCTION = 3;
    private static final int SLOT = 4;
    private static final int INT = 5;
    private static final int LONG = 6;

    // How reading and checking end.
    private static final int FINE = 0;
    private static final int MALFORMED = 1;
    private static final int TOO_MUCH = 2;
    private static final int INVALID = 3;

    private final Reader reader;
    private final Checker checker;
    private final Encoder encoder;
    private final Printer printer;
    // The spare ones are written first and take their place only when all went well,
    // so that a call that throws leaves the text and the module as they were.
    private Text text;
    private Text spareText;
    private Module module;
    private Module spareModule;
    private int place;

    public StackAssembler() {
        text = new Text();
        spareText = new Text();
        module = new Module();
        spareModule = new Module();
        reader = new Reader(text, spareModule);
        checker = new Checker(spareModule);
        encoder = new Encoder();
        printer = new Printer(spareText);
    }

    public boolean type(long eight) {
        return text.addBytes(eight);
    }

    public void wipe() {
        text.length = 0;
    }

    public char character(int k) {
        return text.at(k);
    }

    public int assemble()
            throws IllegalArgumentException, UnsupportedOperationException, IllegalStateException {
        int end = reader.read(text, spareModule);
        if (end != FINE) {
            place = reader.stop;
        } else if (!checker.accepts(spareModule)) {
            end = INVALID;
            place = checker.stop;
        }
        if (end == MALFORMED) {
            throw new IllegalArgumentException("the text is malformed");
        }
        if (end == TOO_MUCH) {
            throw new UnsupportedOperationException("the text is too much");
        }
        if (end == INVALID) {
            throw new IllegalStateException("the module is invalid");
        }
        Module old = module;
        module = spareModule;
        spareModule = old;
        return module.count;
    }

    public int encode() {
        encoder.write(module);
        return encoder.count;
    }

    public int octet(int k) {
        return k == -1 ? encoder.count : encoder.at(k);
    }

    public int print() throws UnsupportedOperationException {
        printer.write(module, spareText);
        if (spareText.length > TEXT_LIMIT) {
            throw new UnsupportedOperationException("the printed text is too long");
        }
        Text old = text;
        text = spareText;
        spareText = old;
        return text.length;
    }

    public int place() {
        return place;
    }

    public int functions() {
        return module.count;
    }

    public int function(int f, int what) {
        if (!module.hasFunction(f) || what < 0) {
            return -1;
        }
        Function function = module.functions[f];
        switch (what) {
            case 0:
                return function.parameters;
            case 1:
                return function.slots;
            case 2:
                return function.result;
            case 3:
                return function.size;
            default:
                return function.hasSlot(what - 4) ? function.types[what - 4] : -1;
        }
    }

    public int instruction(int f, int k) {
        return module.hasInstruction(f, k) ? module.ops[module.functions[f].first + k].code : -1;
    }

    public long immediate(int f, int k) {
        return module.hasInstruction(f, k) ? module.operands[module.functions[f].first + k] : 0L;
    }

    /** The instructions, each with what stands behind its word and, if that is all it does, what it takes and puts. */
    private enum Op {
        UNREACHABLE("unreachable", 0x00, BARE),
        NOP("nop", 0x01, BARE),
        BLOCK("block", 0x02, RESULT),
        LOOP("loop", 0x03, RESULT),
        IF("if", 0x04, RESULT),
        ELSE("else", 0x05, BARE),
        END("end", 0x0B, BARE),
        BR("br", 0x0C, LABEL),
        BR_IF("br_if", 0x0D, LABEL),
        RETURN("return", 0x0F, BARE),
        CALL("call", 0x10, FUNCTION),
        DROP("drop", 0x1A, BARE),
        SELECT("select", 0x1B, BARE),
        LOCAL_GET("local.get", 0x20, SLOT),
        LOCAL_SET("local.set", 0x21, SLOT),
        LOCAL_TEE("local.tee", 0x22, SLOT),
        I32_CONST("i32.const", 0x41, INT, 0, NONE, I),
        I64_CONST("i64.const", 0x42, LONG, 0, NONE, J),
        I32_EQZ("i32.eqz", 0x45, BARE, 1, I, I),
        I32_EQ("i32.eq", 0x46, BARE, 2, I, I),
        I32_LT_S("i32.lt_s", 0x48, BARE, 2, I, I),
        I64_EQZ("i64.eqz", 0x50, BARE, 1, J, I),
        I64_EQ("i64.eq", 0x51, BARE, 2, J, I),
        I32_ADD("i32.add", 0x6A, BARE, 2, I, I),
        I32_SUB("i32.sub", 0x6B, BARE, 2, I, I),
        I32_MUL("i32.mul", 0x6C, BARE, 2, I, I),
        I64_ADD("i64.add", 0x7C, BARE, 2, J, J),
        I64_MUL("i64.mul", 0x7E, BARE, 2, J, J),
        I32_WRAP_I64("i32.wrap_i64", 0xA7, BARE, 1, J, I),
        I64_EXTEND_I32_S("i64.extend_i32_s", 0xAC, BARE, 1, I, J);

        private static final Op[] ALL = values();

        final String word;
        final int code;
        final int operand;
        final int takes;
        final int taken;
        final int puts;

        Op(String word, int code, int operand) {
            this(word, code, operand, 0, NONE, NONE);
        }

        Op(String word, int code, int operand, int takes, int taken, int puts) {
            this.word = word;
            this.code = code;
            this.operand = operand;
            this.takes = takes;
            this.taken = taken;
            this.puts = puts;
        }

        boolean opensBlock() {
            return operand == RESULT;
        }

        boolean isPlain() {
            return !opensBlock() && this != ELSE && this != END;
        }

        boolean awaitsOperand() {
            return operand != BARE && operand != RESULT;
        }
    }

    /** A row of characters; its length goes on beyond the limit when more are added, so that this can be seen. */
    private static final class Text {
        private final char[] characters = new char[TEXT_LIMIT];
        int length;

        char at(int k) {
            return k >= 0 && k < length && k < TEXT_LIMIT ? characters[k] : 0;
        }

        void add(char c) {
            if (length >= 0 && length < TEXT_LIMIT) {
                characters[length] = c;
            }
            length++;
        }

        void addAll(String all) {
            for (int k = 0; k < all.length(); k++) {
                add(all.charAt(k));
            }
        }

        void addNumber(long n) {
            if (n < 0) {
                add('-');
            }
            long power = 1;
            for (int k = 0; k < 18 && n / power / 10 != 0; k++) {
                power *= 10;
            }
            for (; power > 0; power /= 10) {
                add((char) ('0' + Math.abs(n / power % 10)));
            }
        }

        boolean addBytes(long eight) {
            int more = 0;
            for (int shift = 56; shift >= 0; shift -= 8) {
                int one = (int) (eight >>> shift) & 0xFF;
                if (one != 0 && one != '\n' && (one < ' ' || one > '~')) {
                    return false;
                }
                more += one == 0 ? 0 : 1;
            }
            if (length + more > TEXT_LIMIT) {
                return false;
            }
            for (int shift = 56; shift >= 0; shift -= 8) {
                int one = (int) (eight >>> shift) & 0xFF;
                if (one != 0) {
                    add((char) one);
                }
            }
            return true;
        }
    }

    private static final class Function {
        final int[] types = new int[SLOT_LIMIT];
        int parameters;
        int slots;
        int result;
        int first;
        int size;

        void begin(int firstInstruction) {
            parameters = 0;
            slots = 0;
            result = NONE;
            first = firstInstruction;
            size = 0;
        }

        boolean hasSlot(long k) {
            return k >= 0 && k < slots && k < SLOT_LIMIT;
        }

        boolean addParameter(int type) {
            if (parameters >= PARAMETER_LIMIT || !addLocal(type)) {
                return false;
            }
            parameters++;
            return true;
        }

        boolean addLocal(int type) {
            if (slots < 0 || slots >= SLOT_LIMIT) {
                return false;
            }
            types[slots] = type;
            slots++;
            return true;
        }

        boolean isCalledLike(Function other) {
            boolean same = parameters == other.parameters && result == other.result;
            for (int k = 0; same && k < parameters && k < PARAMETER_LIMIT; k++) {
                same = types[k] == other.types[k];
            }
            return same;
        }
    }

    /** Functions, whose instructions stand behind one another in one row. */
    private static final class Module {
        final Function[] functions = new Function[FUNCTION_LIMIT];
        final Op[] ops = new Op[ROW_LIMIT];
        final long[] operands = new long[ROW_LIMIT];
        int count;
        int length;

        Module() {
            for (int f = 0; f < FUNCTION_LIMIT; f++) {
                functions[f] = new Function();
            }
            for (int k = 0; k < ROW_LIMIT; k++) {
                ops[k] = Op.NOP;
            }
        }

        void clear() {
            count = 0;
            length = 0;
        }

        boolean hasFunction(long f) {
            return f >= 0 && f < count && f < FUNCTION_LIMIT;
        }

        boolean hasInstruction(int f, int k) {
            return hasFunction(f) && k >= 0 && k < functions[f].size && functions[f].first + k < ROW_LIMIT;
        }

        Function latest() {
            return functions[Math.max(0, Math.min(count, FUNCTION_LIMIT) - 1)];
        }

        boolean addFunction() {
            if (count >= FUNCTION_LIMIT) {
                return false;
            }
            count++;
            latest().begin(length);
            return true;
        }

        boolean add(Op op, long operand) {
            if (length >= ROW_LIMIT) {
                return false;
            }
            ops[length] = op;
            operands[length] = operand;
            length++;
            latest().size++;
            return true;
        }
    }

    /** Finds the tokens of a text, one after the other. */
    private static final class Scanner {
        static final int OPEN = 0;
        static final int CLOSE = 1;
        static final int WORD = 2;
        static final int BAD = 3;
        static final int END = 4;

        private static final long TENTH_OF_ALL = 1844674407370955161L;

        private Text text;
        int kind;
        int start;
        int end;
        Op op;
        long number;

        Scanner(Text text) {
            this.text = text;
        }

        void begin(Text newText) {
            text = newText;
            kind = BAD;
            start = 0;
            end = 0;
        }

        void next() {
            start = behindGaps(end);
            end = start + 1;
            char c = text.at(start);
            if (start >= text.length) {
                kind = END;
                end = start;
            } else if (c == '(') {
                // A comment that ends is a gap, so one that is met here does not end.
                kind = text.at(start + 1) == ';' ? BAD : OPEN;
            } else if (c == ')') {
                kind = CLOSE;
            } else if (isOfWord(c)) {
                kind = WORD;
                end = behindWord(start);
            } else {
                kind = BAD;
            }
            op = findOp();
        }

        private int behindGaps(int from) {
            int k = from;
            for (int n = 0; n <= TEXT_LIMIT; n++) {
                int next = behindGap(k);
                if (next == k) {
                    return k;
                }
                k = next;
            }
            return k;
        }

        private int behindGap(int k) {
            char c = text.at(k);
            boolean halfComment = text.at(k + 1) == ';';
            if (c == ' ' || c == '\n') {
                return k + 1;
            }
            if (c == ';' && halfComment) {
                return behindLine(k);
            }
            return c == '(' && halfComment ? behindComment(k) : k;
        }

        private int behindLine(int from) {
            int k = from;
            while (k < text.length && text.at(k) != '\n') {
                k++;
            }
            return k;
        }

        /** The same place again when the comment does not end. */
        private int behindComment(int from) {
            int open = 0;
            for (int k = from; k < text.length; k++) {
                char c = text.at(k);
                char d = text.at(k + 1);
                if (c == '(' && d == ';') {
                    open++;
                    k++;
                } else if (c == ';' && d == ')') {
                    open--;
                    k++;
                }
                if (open == 0) {
                    return k + 1;
                }
            }
            return from;
        }

        private int behindWord(int from) {
            int k = from;
            while (k < text.length && isOfWord(text.at(k))) {
                k++;
            }
            return k;
        }

        /** All that a text may hold is of words, but for the blank, the LF and these. */
        private static boolean isOfWord(char c) {
            boolean bracket = c == '(' || c == ')' || c == '[' || c == ']' || c == '{' || c == '}';
            return c > ' ' && c <= '~' && !bracket && c != '"' && c != ',' && c != ';';
        }

        /** Whether the words that begin at these two places are the same. */
        boolean same(int one, int other) {
            for (int k = 0; k <= TEXT_LIMIT; k++) {
                char c = text.at(one + k);
                char d = text.at(other + k);
                if (!isOfWord(c) || !isOfWord(d)) {
                    return !isOfWord(c) && !isOfWord(d);
                }
                if (c != d) {
                    return false;
                }
            }
            return true;
        }

        boolean is(String word) {
            if (kind != WORD || end - start != word.length()) {
                return false;
            }
            for (int k = 0; k < word.length(); k++) {
                if (text.at(start + k) != word.charAt(k)) {
                    return false;
                }
            }
            return true;
        }

        boolean isName() {
            return kind == WORD && text.at(start) == '$' && end - start > 1;
        }

        int valueType() {
            if (is("i32")) {
                return I;
            }
            return is("i64") ? J : NONE;
        }

        /** The instruction with this word, or null. */
        private Op findOp() {
            for (int k = 0; k < Op.ALL.length; k++) {
                if (is(Op.ALL[k].word)) {
                    return Op.ALL[k];
                }
            }
            return null;
        }

        boolean beginsWith(char c) {
            return text.at(start) == c;
        }

        /** Reads the rest of the token as an unsigned number; false if it is none or has more than 64 bits. */
        boolean readDigits(int from) {
            number = 0;
            for (int k = from; k < end; k++) {
                int digit = text.at(k) - '0';
                if (digit < 0 || digit > 9 || Long.compareUnsigned(number, TENTH_OF_ALL) > 0) {
                    return false;
                }
                number = number * 10 + digit;
                if (Long.compareUnsigned(number, digit) < 0) {
                    return false;
                }
            }
            return from < end;
        }
    }

    /** A parenthesis, or a block, that is open; its depth is how many there are. */
    private static final class Level {
        static final int TEXT = 0;
        static final int OPENED = 1;
        static final int MODULE = 2;
        static final int FUNC = 3;
        static final int PARAM = 4;
        static final int LOCAL = 5;
        static final int RESULT = 6;
        static final int FOLDED = 7;
        static final int BLOCK = 8;
        static final int IF = 9;

        // The parts of a function or a block, in their order: the first one that may still come.
        static final int NAME = 0;
        static final int PARAMS = 1;
        static final int RESULTS = 2;
        static final int LOCALS = 3;
        static final int BODY = 4;

        // The parts of what else has any.
        static final int START = 0;
        static final int NAMED = 1;
        static final int TYPES = 2;
        static final int DONE = 3;

        int kind;
        int phase;
        int name;
        Op op = Op.NOP;
        long operand;

        void begin(int newKind) {
            kind = newKind;
            phase = 0;
            name = Reader.NO_NAME;
            op = Op.NOP;
            operand = 0;
        }

        boolean isBlock() {
            return kind == BLOCK || kind == IF;
        }
    }

    /**
     * Reads a text token by token. Each token is judged before the next one is looked at, so that
     * the first one that is at fault decides.
     */
    private static final class Reader {
        static final int NO_NAME = -1;
        private static final int NOT_BEHIND_END = -2;
        private static final long TWO_TO_32 = 1L << 32;

        private final Scanner scanner;
        private final Level[] levels = new Level[DEPTH_LIMIT + 1];
        private final int[] functionNames = new int[FUNCTION_LIMIT];
        private final int[] slotNames = new int[SLOT_LIMIT];
        private Module module;
        private int depth;
        private boolean awaitsOperand;
        private int nameOfEnded;
        private long value;
        int stop;

        Reader(Text text, Module module) {
            this.module = module;
            scanner = new Scanner(text);
            for (int d = 0; d <= DEPTH_LIMIT; d++) {
                levels[d] = new Level();
            }
        }

        int read(Text text, Module into) {
            scanner.begin(text);
            module = into;
            module.clear();
            depth = 0;
            levels[0].begin(Level.TEXT);
            awaitsOperand = false;
            nameOfEnded = NOT_BEHIND_END;
            // A token has at least one character, but for the END token.
            for (int n = 0; n <= TEXT_LIMIT; n++) {
                scanner.next();
                stop = scanner.start;
                int end = judge(levels[depth]);
                if (end != FINE) {
                    return end;
                }
                if (scanner.kind == Scanner.END) {
                    return findFunctions();
                }
            }
            return MALFORMED;
        }

        private int judge(Level top) {
            if (awaitsOperand) {
                return inOperand(top);
            }
            switch (top.kind) {
                case Level.TEXT:
                    return inText(top);
                case Level.OPENED:
                    return behindOpening(top);
                case Level.MODULE:
                    return inModule();
                case Level.PARAM:
                case Level.LOCAL:
                    return inDeclaration(top);
                case Level.RESULT:
                    return inResult(top);
                case Level.FOLDED:
                    return inFolded(top);
                default:
                    return inBody(top);
            }
        }

        private boolean push(int kind) {
            if (depth >= DEPTH_LIMIT) {
                return false;
            }
            depth++;
            levels[depth].begin(kind);
            return true;
        }

        private int open() {
            return push(Level.OPENED) ? FINE : TOO_MUCH;
        }

        private int close() {
            depth = Math.max(0, depth - 1);
            return FINE;
        }

        private int inText(Level top) {
            if (top.phase == Level.START && scanner.kind == Scanner.OPEN) {
                top.phase = Level.DONE;
                return open();
            }
            return top.phase == Level.DONE && scanner.kind == Scanner.END ? FINE : MALFORMED;
        }

        private int inModule() {
            if (scanner.kind == Scanner.OPEN) {
                return open();
            }
            return scanner.kind == Scanner.CLOSE ? close() : MALFORMED;
        }

        private int behindOpening(Level top) {
            Level parent = levels[Math.max(0, depth - 1)];
            switch (parent.kind) {
                case Level.TEXT:
                    top.kind = Level.MODULE;
                    return scanner.is("module") ? FINE : MALFORMED;
                case Level.MODULE:
                    return beginFunction(top);
                case Level.FOLDED:
                    return beginFolded(top);
                default:
                    return beginPart(top, parent);
            }
        }

        private int beginFunction(Level top) {
            if (!scanner.is("func")) {
                return MALFORMED;
            }
            if (!module.addFunction()) {
                return TOO_MUCH;
            }
            setFunctionName(NO_NAME);
            top.kind = Level.FUNC;
            return FINE;
        }

        private int beginPart(Level top, Level parent) {
            boolean ofFunction = parent.kind == Level.FUNC;
            if (ofFunction && parent.phase <= Level.PARAMS && scanner.is("param")) {
                parent.phase = Level.PARAMS;
                top.kind = Level.PARAM;
                return FINE;
            }
            if (parent.phase <= Level.RESULTS && scanner.is("result")) {
                parent.phase = Level.LOCALS;
                top.kind = Level.RESULT;
                return FINE;
            }
            if (ofFunction && parent.phase <= Level.LOCALS && scanner.is("local")) {
                parent.phase = Level.LOCALS;
                top.kind = Level.LOCAL;
                return FINE;
            }
            parent.phase = Level.BODY;
            return beginFolded(top);
        }

        private int beginFolded(Level top) {
            Op op = scanner.op;
            if (op == null || !op.isPlain()) {
                return MALFORMED;
            }
            top.kind = Level.FOLDED;
            top.op = op;
            awaitsOperand = op.awaitsOperand();
            return FINE;
        }

        private int inFolded(Level top) {
            if (scanner.kind == Scanner.OPEN) {
                return open();
            }
            if (scanner.kind != Scanner.CLOSE) {
                return MALFORMED;
            }
            return module.add(top.op, top.operand) ? close() : TOO_MUCH;
        }

        private int inDeclaration(Level top) {
            int type = scanner.valueType();
            if (type != NONE && top.phase != Level.DONE) {
                top.phase = top.phase == Level.NAMED ? Level.DONE : Level.TYPES;
                return declare(top, type) ? FINE : TOO_MUCH;
            }
            if (scanner.kind == Scanner.CLOSE && top.phase != Level.NAMED) {
                return close();
            }
            if (top.phase != Level.START || !scanner.isName() || slotNamed() >= 0) {
                return MALFORMED;
            }
            top.phase = Level.NAMED;
            top.name = scanner.start;
            return FINE;
        }

        private boolean declare(Level top, int type) {
            Function function = module.latest();
            int slot = function.slots;
            if (slot >= 0 && slot < SLOT_LIMIT) {
                slotNames[slot] = top.name;
            }
            return top.kind == Level.PARAM ? function.addParameter(type) : function.addLocal(type);
        }

        private int inResult(Level top) {
            int type = scanner.valueType();
            if (type != NONE && top.phase == Level.START) {
                top.phase = Level.DONE;
                setResult(type);
                return FINE;
            }
            return scanner.kind == Scanner.CLOSE && top.phase == Level.DONE ? close() : MALFORMED;
        }

        private void setResult(int type) {
            Level parent = levels[Math.max(0, depth - 1)];
            if (parent.kind == Level.FUNC) {
                module.latest().result = type;
            } else {
                setLatestOperand(type);
            }
        }

        private void setLatestOperand(long operand) {
            if (module.length > 0) {
                module.operands[module.length - 1] = operand;
            }
        }

        private int inBody(Level top) {
            int ended = nameOfEnded;
            nameOfEnded = NOT_BEHIND_END;
            if (scanner.kind == Scanner.OPEN) {
                return open();
            }
            if (scanner.kind == Scanner.CLOSE) {
                return top.kind == Level.FUNC ? close() : MALFORMED;
            }
            if (!scanner.isName()) {
                return instructionIn(top);
            }
            if (ended == NOT_BEHIND_END) {
                return giveName(top);
            }
            return ended != NO_NAME && scanner.same(ended, scanner.start) ? FINE : MALFORMED;
        }

        private int giveName(Level top) {
            boolean ofFunction = top.kind == Level.FUNC;
            if (top.phase != Level.NAME || ofFunction && functionNamed(scanner.start) >= 0) {
                return MALFORMED;
            }
            if (ofFunction) {
                setFunctionName(scanner.start);
            }
            top.phase = Level.PARAMS;
            top.name = scanner.start;
            return FINE;
        }

        private void setFunctionName(int name) {
            int f = module.count - 1;
            if (f >= 0 && f < FUNCTION_LIMIT) {
                functionNames[f] = name;
            }
        }

        private int instructionIn(Level top) {
            Op op = scanner.op;
            if (op == null || op == Op.ELSE && top.kind != Level.IF || op == Op.END && !top.isBlock()) {
                return MALFORMED;
            }
            if (!module.add(op, 0)) {
                return TOO_MUCH;
            }
            top.phase = Level.BODY;
            awaitsOperand = op.awaitsOperand();
            if (op.opensBlock()) {
                return push(op == Op.IF ? Level.IF : Level.BLOCK) ? FINE : TOO_MUCH;
            }
            if (op == Op.ELSE) {
                nameOfEnded = top.name;
                // An if may have one else, so from here on it is like any other block.
                top.kind = Level.BLOCK;
            }
            if (op == Op.END) {
                nameOfEnded = top.name;
                return close();
            }
            return FINE;
        }

        private int inOperand(Level top) {
            boolean folded = top.kind == Level.FOLDED;
            Op op = folded || module.length <= 0 ? top.op : module.ops[module.length - 1];
            awaitsOperand = false;
            if (scanner.kind != Scanner.WORD || !readOperand(op.operand)) {
                return MALFORMED;
            }
            if (folded) {
                top.operand = value;
            } else {
                setLatestOperand(value);
            }
            return FINE;
        }

        private boolean readOperand(int what) {
            if (what == INT) {
                boolean found = readNumber(1L << 31, TWO_TO_32 - 1);
                value = (int) value;
                return found;
            }
            if (what == LONG) {
                return readNumber(1L << 63, -1L);
            }
            if (!scanner.isName()) {
                boolean found = scanner.readDigits(scanner.start);
                value = scanner.number;
                return found && Long.compareUnsigned(value, TWO_TO_32) < 0;
            }
            if (what == FUNCTION) {
                // The function may come later: below zero stands where its name is, until all are known.
                value = -1L - scanner.start;
                return true;
            }
            value = what == LABEL ? labelNamed() : slotNamed();
            return value >= 0;
        }

        /** The greatest sizes of what is below zero and of what is not are both unsigned. */
        private boolean readNumber(long mostBelow, long most) {
            boolean below = scanner.beginsWith('-');
            boolean signed = below || scanner.beginsWith('+');
            boolean found = scanner.readDigits(signed ? scanner.start + 1 : scanner.start);
            long size = scanner.number;
            value = below ? -size : size;
            return found && Long.compareUnsigned(size, below ? mostBelow : most) <= 0;
        }

        private int labelNamed() {
            int label = 0;
            for (int d = depth; d > 0; d--) {
                Level level = levels[d];
                if (level.isBlock()) {
                    if (level.name != NO_NAME && scanner.same(level.name, scanner.start)) {
                        return label;
                    }
                    label++;
                }
            }
            return -1;
        }

        private int slotNamed() {
            int slots = module.latest().slots;
            for (int k = 0; k < slots && k < SLOT_LIMIT; k++) {
                if (slotNames[k] != NO_NAME && scanner.same(slotNames[k], scanner.start)) {
                    return k;
                }
            }
            return -1;
        }

        private int functionNamed(int name) {
            for (int f = 0; f < module.count && f < FUNCTION_LIMIT; f++) {
                if (functionNames[f] != NO_NAME && scanner.same(functionNames[f], name)) {
                    return f;
                }
            }
            return -1;
        }

        /** Folded instructions change the order, so the first name in the text need not be the first in the row. */
        private int findFunctions() {
            int end = FINE;
            for (int k = 0; k < module.length && k < ROW_LIMIT; k++) {
                if (module.ops[k] == Op.CALL && module.operands[k] < 0) {
                    int name = (int) (-1L - module.operands[k]);
                    int found = functionNamed(name);
                    module.operands[k] = found;
                    if (found < 0) {
                        stop = end == FINE ? name : Math.min(stop, name);
                        end = MALFORMED;
                    }
                }
            }
            return end;
        }
    }

    /** A block, or a function's own, that is being checked. */
    private static final class Frame {
        int label;
        int result;
        int height;
        boolean unreachable;
        boolean lacksElse;

        void begin(int newLabel, int newResult, int newHeight) {
            label = newLabel;
            result = newResult;
            height = newHeight;
            unreachable = false;
            lacksElse = false;
        }
    }

    /** Follows the types on the stack, instruction by instruction. */
    private static final class Checker {
        private final int[] stack = new int[ROW_LIMIT];
        private final Frame[] frames = new Frame[DEPTH_LIMIT];
        private Module module;
        private Function function;
        private int height;
        private int depth;
        private boolean invalid;
        int stop;

        Checker(Module module) {
            this.module = module;
            function = module.latest();
            for (int d = 0; d < DEPTH_LIMIT; d++) {
                frames[d] = new Frame();
            }
        }

        boolean accepts(Module checked) {
            module = checked;
            invalid = false;
            for (int f = 0; f < module.count && f < FUNCTION_LIMIT; f++) {
                function = module.functions[f];
                int passed = checkFunction();
                if (invalid) {
                    stop = ROW_LIMIT * f + passed;
                    return false;
                }
            }
            return true;
        }

        /** Answers how many instructions are in order. */
        private int checkFunction() {
            height = 0;
            depth = 0;
            frames[0].begin(function.result, function.result, 0);
            for (int k = 0; k < function.size && function.first + k < ROW_LIMIT; k++) {
                check(module.ops[function.first + k], module.operands[function.first + k]);
                if (invalid) {
                    return k;
                }
            }
            endFrame();
            return function.size;
        }

        private void check(Op op, long operand) {
            switch (op) {
                case BLOCK:
                case LOOP:
                case IF:
                    beginFrame(op, (int) operand);
                    break;
                case ELSE:
                    endFrame();
                    restartFrame();
                    break;
                case END:
                    leaveFrame();
                    break;
                case BR:
                case BR_IF:
                    checkBranch(op, operand);
                    break;
                case RETURN:
                    takeResult(function.result);
                    makeUnreachable();
                    break;
                case UNREACHABLE:
                    makeUnreachable();
                    break;
                case CALL:
                    checkCall(operand);
                    break;
                case DROP:
                    take(ANY);
                    break;
                case SELECT:
                    checkSelect();
                    break;
                case LOCAL_GET:
                case LOCAL_SET:
                case LOCAL_TEE:
                    checkSlot(op, operand);
                    break;
                default:
                    checkSimple(op);
                    break;
            }
        }

        private void checkSimple(Op op) {
            for (int k = 0; k < op.takes; k++) {
                take(op.taken);
            }
            put(op.puts);
        }

        private void beginFrame(Op op, int result) {
            if (op == Op.IF) {
                take(I);
            }
            if (depth + 1 >= DEPTH_LIMIT) {
                invalid = true;
                return;
            }
            depth++;
            frames[depth].begin(op == Op.LOOP ? NONE : result, result, height);
            frames[depth].lacksElse = op == Op.IF;
        }

        private void endFrame() {
            takeResult(frames[depth].result);
            if (height != frames[depth].height) {
                invalid = true;
            }
        }

        private void restartFrame() {
            Frame frame = frames[depth];
            height = frame.height;
            frame.unreachable = false;
            frame.lacksElse = false;
        }

        private void leaveFrame() {
            Frame frame = frames[depth];
            endFrame();
            if (frame.lacksElse && frame.result != NONE) {
                invalid = true;
            }
            depth = Math.max(0, depth - 1);
            put(frame.result);
        }

        private void makeUnreachable() {
            height = frames[depth].height;
            frames[depth].unreachable = true;
        }

        private void checkBranch(Op op, long label) {
            if (op == Op.BR_IF) {
                take(I);
            }
            if (label < 0 || label > depth) {
                invalid = true;
                return;
            }
            int type = frames[depth - (int) label].label;
            takeResult(type);
            if (op == Op.BR_IF) {
                put(type);
            } else {
                makeUnreachable();
            }
        }

        private void checkCall(long f) {
            if (!module.hasFunction(f)) {
                invalid = true;
                return;
            }
            Function called = module.functions[(int) f];
            for (int k = Math.min(called.parameters, PARAMETER_LIMIT) - 1; k >= 0; k--) {
                take(called.types[k]);
            }
            put(called.result);
        }

        private void checkSlot(Op op, long slot) {
            if (!function.hasSlot(slot)) {
                invalid = true;
                return;
            }
            int type = function.types[(int) slot];
            if (op != Op.LOCAL_GET) {
                take(type);
            }
            if (op != Op.LOCAL_SET) {
                put(type);
            }
        }

        private void checkSelect() {
            take(I);
            int first = take(ANY);
            int second = take(first);
            put(first == ANY ? second : first);
        }

        private void takeResult(int type) {
            if (type != NONE) {
                take(type);
            }
        }

        /** Takes that type, or anything for ANY, and answers what was got. */
        private int take(int type) {
            Frame frame = frames[depth];
            if (height <= frame.height || height > ROW_LIMIT) {
                invalid = invalid || !frame.unreachable;
                return ANY;
            }
            height--;
            int got = stack[height];
            if (type != ANY && got != ANY && got != type) {
                invalid = true;
            }
            return got;
        }

        private void put(int type) {
            if (type != NONE && height >= 0 && height < ROW_LIMIT) {
                stack[height] = type;
                height++;
            }
        }
    }

    /** Holds the bytes, and writes those of a module. */
    private static final class Encoder {
        // Four functions and 64 instructions of the longest kind stay below this.
        private static final int OCTET_LIMIT = 1024;
        private static final int[] HEADER = {0x00, 0x61, 0x73, 0x6D, 0x01, 0x00, 0x00, 0x00};

        private final byte[] octets = new byte[OCTET_LIMIT];
        private final int[] signatures = new int[FUNCTION_LIMIT];
        int count;

        int at(int k) {
            return k >= 0 && k < count && k < OCTET_LIMIT ? octets[k] & 0xFF : -1;
        }

        void write(Module module) {
            count = 0;
            for (int k = 0; k < HEADER.length; k++) {
                add(HEADER[k]);
            }
            if (module.count > 0) {
                addSignatures(module);
                addSignatureNumbers(module);
                addBodies(module);
            }
        }

        private void addSignatures(Module module) {
            add(1);
            int start = count;
            addUnsigned(numberSignatures(module));
            int written = 0;
            for (int f = 0; f < module.count && f < FUNCTION_LIMIT; f++) {
                if (signatures[f] == written) {
                    addSignature(module.functions[f]);
                    written++;
                }
            }
            putSizeAhead(start);
        }

        /** Answers how many signatures differ. */
        private int numberSignatures(Module module) {
            int different = 0;
            for (int f = 0; f < module.count && f < FUNCTION_LIMIT; f++) {
                signatures[f] = different;
                for (int g = 0; g < f; g++) {
                    if (module.functions[g].isCalledLike(module.functions[f])) {
                        signatures[f] = signatures[g];
                        break;
                    }
                }
                different += signatures[f] == different ? 1 : 0;
            }
            return different;
        }

        private void addSignature(Function function) {
            add(0x60);
            addUnsigned(function.parameters);
            for (int k = 0; k < function.parameters && k < PARAMETER_LIMIT; k++) {
                addType(function.types[k]);
            }
            addUnsigned(function.result == NONE ? 0 : 1);
            if (function.result != NONE) {
                addType(function.result);
            }
        }

        private void addSignatureNumbers(Module module) {
            add(3);
            int start = count;
            addUnsigned(module.count);
            for (int f = 0; f < module.count && f < FUNCTION_LIMIT; f++) {
                addUnsigned(signatures[f]);
            }
            putSizeAhead(start);
        }

        private void addBodies(Module module) {
            add(10);
            int start = count;
            addUnsigned(module.count);
            for (int f = 0; f < module.count && f < FUNCTION_LIMIT; f++) {
                addBody(module, module.functions[f]);
            }
            putSizeAhead(start);
        }

        private void addBody(Module module, Function function) {
            int start = count;
            addRuns(function);
            for (int k = 0; k < function.size && function.first + k < ROW_LIMIT; k++) {
                Op op = module.ops[function.first + k];
                add(op.code);
                addOperand(op, module.operands[function.first + k]);
            }
            add(Op.END.code);
            putSizeAhead(start);
        }

        private void addRuns(Function function) {
            int runs = 0;
            for (int k = function.parameters; k < SLOT_LIMIT && function.hasSlot(k); k++) {
                runs += endsRun(function, k) ? 1 : 0;
            }
            addUnsigned(runs);
            int run = 0;
            for (int k = function.parameters; k < SLOT_LIMIT && function.hasSlot(k); k++) {
                run++;
                if (endsRun(function, k)) {
                    addUnsigned(run);
                    addType(function.types[k]);
                    run = 0;
                }
            }
        }

        private static boolean endsRun(Function function, int k) {
            return !function.hasSlot(k + 1) || function.types[k + 1] != function.types[k];
        }

        private void addOperand(Op op, long operand) {
            switch (op.operand) {
                case BARE:
                    break;
                case RESULT:
                    addType((int) operand);
                    break;
                case INT:
                case LONG:
                    addSigned(operand);
                    break;
                default:
                    addUnsigned(operand);
                    break;
            }
        }

        private void addType(int type) {
            if (type == NONE) {
                add(0x40);
            } else {
                add(type == I ? 0x7F : 0x7E);
            }
        }

        private void addUnsigned(long n) {
            long rest = n;
            for (int k = 0; k < 9 && rest >>> 7 != 0; k++) {
                add((int) (rest & 0x7F) | 0x80);
                rest >>>= 7;
            }
            add((int) (rest & 0x7F));
        }

        private void addSigned(long n) {
            long rest = n;
            // Seven bits are enough as soon as the sixth, the sign, tells all that is above it.
            for (int k = 0; k < 9 && rest >> 6 != 0 && rest >> 6 != -1; k++) {
                add((int) (rest & 0x7F) | 0x80);
                rest >>= 7;
            }
            add((int) (rest & 0x7F));
        }

        private void add(int octet) {
            if (count >= 0 && count < OCTET_LIMIT) {
                octets[count] = (byte) octet;
                count++;
            }
        }

        /** A size is known only when what it measures has been written, which then moves to make room for it. */
        private void putSizeAhead(int start) {
            int end = count;
            int size = end - start;
            addUnsigned(size);
            int width = count - end;
            for (int k = end - 1; k >= start && k >= 0 && k + width < OCTET_LIMIT; k--) {
                octets[k + width] = octets[k];
            }
            count = start;
            addUnsigned(size);
            count = end + width;
        }
    }

    /** Writes a module as text, in the plainest form. */
    private static final class Printer {
        private Text text;

        Printer(Text text) {
            this.text = text;
        }

        void write(Module module, Text into) {
            text = into;
            text.length = 0;
            text.addAll("(module");
            for (int f = 0; f < module.count && f < FUNCTION_LIMIT; f++) {
                writeFunction(module, module.functions[f]);
            }
            text.add(')');
        }

        private void writeFunction(Module module, Function function) {
            text.addAll("(func");
            writeSlots("(param", function, 0, function.parameters);
            if (function.result != NONE) {
                writeResult(function.result);
            }
            writeSlots("(local", function, function.parameters, function.slots);
            for (int k = 0; k < function.size && function.first + k < ROW_LIMIT; k++) {
                writeInstruction(module.ops[function.first + k], module.operands[function.first + k]);
            }
            text.add(')');
        }

        private void writeSlots(String opening, Function function, int from, int to) {
            if (from >= to) {
                return;
            }
            text.addAll(opening);
            for (int k = from; k < to && function.hasSlot(k); k++) {
                text.add(' ');
                writeType(function.types[k]);
            }
            text.add(')');
        }

        private void writeResult(int type) {
            text.addAll("(result ");
            writeType(type);
            text.add(')');
        }

        private void writeType(int type) {
            text.addAll(type == I ? "i32" : "i64");
        }

        private void writeInstruction(Op op, long operand) {
            text.add(' ');
            text.addAll(op.word);
            if (op.awaitsOperand()) {
                text.add(' ');
                text.addNumber(operand);
            } else if (op.opensBlock() && operand != NONE) {
                text.add(' ');
                writeResult((int) operand);
            }
        }
    }
}
