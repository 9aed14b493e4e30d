/**
 * Files of clocked circuits in two forms: read with their first fault told by its place, written in
 * either form, and run.
 */
public final class CircuitFiles {
    public static final int NONE = -1;

    private static final int MOST_BYTES = 6000;
    private static final int WORD_BYTES = 4;
    private static final int READY_BYTES = 5 * WORD_BYTES;

    private static final int MOST_VARIABLES = 400;
    private static final int MOST_INPUTS = 6;
    private static final int MOST_LATCHES = 7;
    private static final int MOST_OUTPUTS = 8;
    private static final int MOST_ANDS = 300;
    private static final int MOST_USES = MOST_LATCHES + MOST_OUTPUTS + 2 * MOST_ANDS;
    private static final int MOST_DIGITS = 4;
    private static final int MOST_DELTA_BYTES = 3;

    private static final int INPUT = 0;
    private static final int LATCH = 1;
    private static final int OUTPUT = 2;
    private static final int KINDS = 3;
    private static final int SLOTS = KINDS * MOST_OUTPUTS;
    private static final int MOST_NAME = 40;
    private static final String KIND_LETTERS = "ilo";

    private static final int SYNTAX = 1;
    private static final int BOUNDS = 2;
    private static final int OUT_OF_RANGE = 3;
    private static final int WRONG_DEFINITION = 4;
    private static final int UNDEFINED = 5;
    private static final int LOOP = 6;

    private static final int LINE_END = 10;
    private static final int BLANK = 32;

    private final Tape tape = new Tape();
    private final Reader reader = new Reader(tape);
    private final Form textForm = new Form();
    private final Form binaryForm = new Form();
    private Circuit circuit = new Circuit();
    private Circuit draft = new Circuit();

    public CircuitFiles() {
    }

    public void feed(int a, int b, int c, int d, int e) {
        tape.makeReady(0, a);
        tape.makeReady(1, b);
        tape.makeReady(2, c);
        tape.makeReady(3, d);
        tape.makeReady(4, e);
    }

    public int end(int n) {
        return tape.take(n);
    }

    public int load() throws IllegalArgumentException {
        boolean sound = reader.readFile(draft);
        tape.makeEmpty();
        if (!sound) {
            throw new IllegalArgumentException("the file has a fault");
        }
        Circuit before = circuit;
        circuit = draft;
        draft = before;
        textForm.forget();
        binaryForm.forget();
        return circuit.ands;
    }

    public int fault(int what) {
        switch (what) {
            case 0: return reader.faultKind();
            case 1: return reader.faultPlace();
            default: return NONE;
        }
    }

    public int many(int what) {
        switch (what) {
            case 0: return circuit.top;
            case 1: return circuit.inputs;
            case 2: return circuit.latches;
            case 3: return circuit.outputs;
            case 4: return circuit.ands;
            default: return NONE;
        }
    }

    public int symbol(int kind, int k, int i) {
        if (k < 0 || k >= circuit.countOf(kind)) {
            return NONE;
        }
        int slot = slotOf(kind, k);
        return i < 0 || i >= circuit.nameLength[slot] ? NONE : circuit.nameBytes[slot * MOST_NAME + i];
    }

    public int form(boolean binary, int i) {
        if (binary) {
            binaryForm.writeBinary(circuit);
            return binaryForm.byteOf(i);
        }
        textForm.writeText(circuit);
        return textForm.byteOf(i);
    }

    public void reset() {
        circuit.latchBits = 0;
    }

    public int state() {
        return circuit.latchBits;
    }

    public int value(int literal, int x) {
        if (literal < 0 || literal > circuit.highestLiteral() || !circuit.isKnown(literal)) {
            return NONE;
        }
        circuit.settle(x);
        return circuit.bitOf(literal);
    }

    public int step(int x) {
        circuit.settle(x);
        int answer = circuit.bitsOf(circuit.outputLiteral, circuit.outputs);
        circuit.latchBits = circuit.bitsOf(circuit.latchNext, circuit.latches);
        return answer;
    }

    private static int slotOf(int kind, int k) {
        return kind * MOST_OUTPUTS + k;
    }

    /** The bytes that are ready, and those that have come. */
    private static final class Tape {
        private final int[] ready = new int[READY_BYTES];
        private final int[] bytes = new int[MOST_BYTES];
        private int length = 0;

        void makeReady(int group, int word) {
            for (int i = 0; i < WORD_BYTES; i++) {
                ready[group * WORD_BYTES + i] = (word >>> 8 * (WORD_BYTES - 1 - i)) & 255;
            }
        }

        int take(int n) {
            if (n < 0 || n > READY_BYTES || length + n > MOST_BYTES) {
                return NONE;
            }
            for (int i = 0; i < n; i++) {
                bytes[length + i] = ready[i];
            }
            for (int i = 0; i < READY_BYTES; i++) {
                ready[i] = 0;
            }
            length += n;
            return length;
        }

        void makeEmpty() {
            length = 0;
        }
    }

    /** A circuit as its file tells it, with its latches. */
    private static final class Circuit {
        int top = 0;
        int inputs = 0;
        int latches = 0;
        int outputs = 0;
        int ands = 0;
        int latchBits = 0;
        final int[] inputVariable = new int[MOST_INPUTS];
        final int[] latchVariable = new int[MOST_LATCHES];
        final int[] latchNext = new int[MOST_LATCHES];
        final int[] outputLiteral = new int[MOST_OUTPUTS];
        final int[] andVariable = new int[MOST_ANDS];
        final int[] andFirst = new int[MOST_ANDS];
        final int[] andSecond = new int[MOST_ANDS];
        final int[] order = new int[MOST_ANDS];
        final boolean[] defined = new boolean[MOST_VARIABLES + 1];
        final int[] nameLength = new int[SLOTS];
        final int[] nameBytes = new int[SLOTS * MOST_NAME];
        private final int[] bit = new int[MOST_VARIABLES + 1];

        void forget() {
            for (int v = 0; v <= MOST_VARIABLES; v++) {
                defined[v] = false;
            }
            for (int slot = 0; slot < SLOTS; slot++) {
                nameLength[slot] = 0;
            }
            latchBits = 0;
        }

        boolean isWithinBounds(boolean binary) {
            int needed = inputs + latches + ands;
            return top <= MOST_VARIABLES && inputs <= MOST_INPUTS && latches <= MOST_LATCHES
                && outputs <= MOST_OUTPUTS && ands <= MOST_ANDS
                && (binary ? top == needed : top >= needed);
        }

        int highestLiteral() {
            return 2 * top + 1;
        }

        int countOf(int kind) {
            switch (kind) {
                case INPUT: return inputs;
                case LATCH: return latches;
                case OUTPUT: return outputs;
                default: return 0;
            }
        }

        boolean isKnown(int literal) {
            return literal < 2 || defined[literal >> 1];
        }

        void settle(int x) {
            for (int k = 0; k < inputs; k++) {
                bit[inputVariable[k]] = (x >> k) & 1;
            }
            for (int k = 0; k < latches; k++) {
                bit[latchVariable[k]] = (latchBits >> k) & 1;
            }
            for (int i = 0; i < ands; i++) {
                int and = order[i];
                bit[andVariable[and]] = bitOf(andFirst[and]) & bitOf(andSecond[and]);
            }
        }

        int bitOf(int literal) {
            return bit[literal >> 1] ^ (literal & 1);
        }

        int bitsOf(int[] literals, int count) {
            int bits = 0;
            for (int k = 0; k < count; k++) {
                bits |= bitOf(literals[k]) << k;
            }
            return bits;
        }
    }

    /** A place on the tape, what was read last there, and the first fault. */
    private static final class Cursor {
        private final Tape tape;
        int at = 0;
        int start = 0;
        int number = 0;
        int faultKind = 0;
        int faultPlace = NONE;

        Cursor(Tape tape) {
            this.tape = tape;
        }

        void restart() {
            at = 0;
            faultKind = 0;
            faultPlace = NONE;
        }

        /** Always false, so that a reading method can return it. */
        boolean fail(int kind, int place) {
            faultKind = kind;
            faultPlace = place;
            return false;
        }

        /** NONE behind the tape's end: no byte is that, so it fails every comparison with one. */
        int peek() {
            return at < 0 || at >= tape.length ? NONE : tape.bytes[at];
        }

        boolean expect(int wanted) {
            if (peek() != wanted) {
                return fail(SYNTAX, at);
            }
            at++;
            return true;
        }

        boolean readNumber() {
            start = at;
            number = 0;
            for (int digits = 0; digits <= MOST_DIGITS; digits++) {
                int next = peek();
                if (next < '0' || next > '9') {
                    return digits > 0 || fail(SYNTAX, at);
                }
                boolean behindZero = digits > 0 && number == 0;
                if (behindZero || digits == MOST_DIGITS) {
                    return fail(SYNTAX, at);
                }
                number = 10 * number + next - '0';
                at++;
            }
            return true;
        }

        /** A delta: seven bits a byte, the lowest first. */
        boolean readSevens() {
            start = at;
            number = 0;
            for (int i = 0; i < MOST_DELTA_BYTES; i++) {
                int next = peek();
                if (next == NONE) {
                    return fail(SYNTAX, at);
                }
                at++;
                number |= (next & 127) << 7 * i;
                if (next < 128) {
                    return true;
                }
            }
            return fail(SYNTAX, at);
        }
    }

    /** Reads a file into a circuit; each reading method answers false at the first fault. */
    private static final class Reader {
        private final Cursor cursor;
        private final AndSorter sorter = new AndSorter();
        private final int[] useLiteral = new int[MOST_USES];
        private final int[] usePlace = new int[MOST_USES];
        private int uses = 0;
        private boolean binary = false;

        Reader(Tape tape) {
            cursor = new Cursor(tape);
        }

        int faultKind() {
            return cursor.faultKind;
        }

        int faultPlace() {
            return cursor.faultPlace;
        }

        boolean readFile(Circuit c) {
            cursor.restart();
            uses = 0;
            c.forget();
            return readHeader(c) && readInputs(c) && readLatches(c) && readOutputs(c)
                && (binary ? readBinaryAnds(c) : readTextAnds(c))
                && readSymbols(c) && checkUses(c) && checkLoops(c);
        }

        private boolean readHeader(Circuit c) {
            if (!cursor.expect('a')) {
                return false;
            }
            binary = cursor.peek() == 'i';
            if (!cursor.expect(binary ? 'i' : 'a') || !cursor.expect('g') || !readCount()) {
                return false;
            }
            c.top = cursor.number;
            if (!readCount()) {
                return false;
            }
            c.inputs = cursor.number;
            if (!readCount()) {
                return false;
            }
            c.latches = cursor.number;
            if (!readCount()) {
                return false;
            }
            c.outputs = cursor.number;
            if (!readCount()) {
                return false;
            }
            c.ands = cursor.number;
            if (!cursor.expect(LINE_END)) {
                return false;
            }
            return c.isWithinBounds(binary) || cursor.fail(BOUNDS, cursor.at);
        }

        private boolean readCount() {
            return cursor.expect(BLANK) && cursor.readNumber();
        }

        private boolean readInputs(Circuit c) {
            for (int k = 0; k < c.inputs; k++) {
                if (binary) {
                    c.inputVariable[k] = k + 1;
                } else {
                    if (!readDefinition(c) || !cursor.expect(LINE_END)) {
                        return false;
                    }
                    c.inputVariable[k] = cursor.number >> 1;
                }
                c.defined[c.inputVariable[k]] = true;
            }
            return true;
        }

        private boolean readLatches(Circuit c) {
            for (int k = 0; k < c.latches; k++) {
                if (binary) {
                    c.latchVariable[k] = c.inputs + k + 1;
                } else {
                    if (!readDefinition(c) || !cursor.expect(BLANK)) {
                        return false;
                    }
                    c.latchVariable[k] = cursor.number >> 1;
                }
                c.defined[c.latchVariable[k]] = true;
                if (!readUse(c) || !cursor.expect(LINE_END)) {
                    return false;
                }
                c.latchNext[k] = cursor.number;
            }
            return true;
        }

        private boolean readOutputs(Circuit c) {
            for (int k = 0; k < c.outputs; k++) {
                if (!readUse(c) || !cursor.expect(LINE_END)) {
                    return false;
                }
                c.outputLiteral[k] = cursor.number;
            }
            return true;
        }

        private boolean readTextAnds(Circuit c) {
            for (int i = 0; i < c.ands; i++) {
                if (!readDefinition(c) || !cursor.expect(BLANK)) {
                    return false;
                }
                c.andVariable[i] = cursor.number >> 1;
                c.defined[c.andVariable[i]] = true;
                if (!readUse(c) || !cursor.expect(BLANK)) {
                    return false;
                }
                c.andFirst[i] = cursor.number;
                if (!readUse(c) || !cursor.expect(LINE_END)) {
                    return false;
                }
                c.andSecond[i] = cursor.number;
            }
            return true;
        }

        /** The operands are not kept as uses: every variable below the and's own is defined. */
        private boolean readBinaryAnds(Circuit c) {
            for (int i = 0; i < c.ands; i++) {
                int variable = c.inputs + c.latches + i + 1;
                c.andVariable[i] = variable;
                c.defined[variable] = true;
                if (!readDelta(1, 2 * variable)) {
                    return false;
                }
                c.andFirst[i] = 2 * variable - cursor.number;
                if (!readDelta(0, c.andFirst[i])) {
                    return false;
                }
                c.andSecond[i] = c.andFirst[i] - cursor.number;
            }
            return true;
        }

        private boolean readDelta(int lowest, int highest) {
            if (!cursor.readSevens()) {
                return false;
            }
            boolean fits = cursor.number >= lowest && cursor.number <= highest;
            return fits || cursor.fail(OUT_OF_RANGE, cursor.start);
        }

        private boolean readLiteral(Circuit c) {
            if (!cursor.readNumber()) {
                return false;
            }
            return cursor.number <= c.highestLiteral() || cursor.fail(OUT_OF_RANGE, cursor.start);
        }

        private boolean readDefinition(Circuit c) {
            if (!readLiteral(c)) {
                return false;
            }
            int literal = cursor.number;
            boolean right = literal >= 2 && (literal & 1) == 0 && !c.defined[literal >> 1];
            return right || cursor.fail(WRONG_DEFINITION, cursor.start);
        }

        /** Kept with its place: whether it is defined is known only at the file's end. */
        private boolean readUse(Circuit c) {
            if (!readLiteral(c)) {
                return false;
            }
            if (uses < MOST_USES) {
                useLiteral[uses] = cursor.number;
                usePlace[uses] = cursor.start;
                uses++;
            }
            return true;
        }

        /** Each symbol takes a slot of its own, so that there can't be more lines than slots and one. */
        private boolean readSymbols(Circuit c) {
            for (int lines = 0; lines <= SLOTS; lines++) {
                int letter = cursor.peek();
                if (letter == NONE) {
                    return true;
                }
                if (letter == 'c') {
                    cursor.at++;
                    return cursor.expect(LINE_END);
                }
                if (!readSymbol(c, kindOf(letter))) {
                    return false;
                }
            }
            return true;
        }

        private static int kindOf(int letter) {
            for (int kind = 0; kind < KINDS; kind++) {
                if (KIND_LETTERS.charAt(kind) == letter) {
                    return kind;
                }
            }
            return NONE;
        }

        private boolean readSymbol(Circuit c, int kind) {
            if (kind == NONE) {
                return cursor.fail(SYNTAX, cursor.at);
            }
            cursor.at++;
            if (!cursor.readNumber()) {
                return false;
            }
            int k = cursor.number;
            if (k >= c.countOf(kind) || c.nameLength[slotOf(kind, k)] > 0) {
                return cursor.fail(SYNTAX, cursor.at);
            }
            return cursor.expect(BLANK) && readName(c, slotOf(kind, k));
        }

        private boolean readName(Circuit c, int slot) {
            for (int i = 0; i < MOST_NAME; i++) {
                int next = cursor.peek();
                if (next == NONE || next == LINE_END) {
                    break;
                }
                c.nameBytes[slot * MOST_NAME + i] = next;
                c.nameLength[slot] = i + 1;
                cursor.at++;
            }
            return c.nameLength[slot] > 0 ? cursor.expect(LINE_END) : cursor.fail(SYNTAX, cursor.at);
        }

        private boolean checkUses(Circuit c) {
            for (int i = 0; i < uses; i++) {
                if (!c.isKnown(useLiteral[i])) {
                    return cursor.fail(UNDEFINED, usePlace[i]);
                }
            }
            return true;
        }

        private boolean checkLoops(Circuit c) {
            return sorter.putInOrder(c) || cursor.fail(LOOP, sorter.lowestOnLoop(c));
        }
    }

    /** Puts a circuit's ands in order, or finds where they hang on themselves. */
    private static final class AndSorter {
        private final boolean[] come = new boolean[MOST_VARIABLES + 1];
        private final boolean[] reached = new boolean[MOST_VARIABLES + 1];
        private final int[] andOf = new int[MOST_VARIABLES + 1];
        private final int[] stack = new int[MOST_ANDS + 1];
        private int height = 0;

        boolean putInOrder(Circuit c) {
            awaitAnds(c);
            int firstWaiting = 0;
            for (int placed = 0; placed < c.ands; placed++) {
                while (firstWaiting < c.ands && come[c.andVariable[firstWaiting]]) {
                    firstWaiting++;
                }
                int next = firstReady(c, firstWaiting);
                if (next == NONE) {
                    return false;
                }
                c.order[placed] = next;
                come[c.andVariable[next]] = true;
            }
            return true;
        }

        private void awaitAnds(Circuit c) {
            for (int v = 0; v <= MOST_VARIABLES; v++) {
                come[v] = true;
            }
            for (int i = 0; i < c.ands; i++) {
                come[c.andVariable[i]] = false;
                andOf[c.andVariable[i]] = i;
            }
        }

        private int firstReady(Circuit c, int from) {
            for (int i = from; i < c.ands; i++) {
                if (!come[c.andVariable[i]] && come[c.andFirst[i] >> 1] && come[c.andSecond[i] >> 1]) {
                    return i;
                }
            }
            return NONE;
        }

        /** Behind a putInOrder that failed: only ands that have not come can lie on a loop. */
        int lowestOnLoop(Circuit c) {
            for (int v = 1; v <= c.top; v++) {
                if (!come[v] && reachesItself(c, v)) {
                    return v;
                }
            }
            return NONE;
        }

        /** The start is pushed without being reached, so that it is reached only through operands. */
        private boolean reachesItself(Circuit c, int start) {
            for (int v = 0; v <= MOST_VARIABLES; v++) {
                reached[v] = false;
            }
            stack[0] = start;
            height = 1;
            for (int visits = 0; height > 0 && visits <= MOST_ANDS; visits++) {
                height--;
                int and = andOf[stack[height]];
                reach(c.andFirst[and] >> 1);
                reach(c.andSecond[and] >> 1);
            }
            return reached[start];
        }

        private void reach(int variable) {
            if (!come[variable] && !reached[variable] && height < stack.length) {
                reached[variable] = true;
                stack[height] = variable;
                height++;
            }
        }
    }

    /** A circuit's file in one form, kept from its first use until the circuit changes. */
    private static final class Form {
        // The longest text has a first line of 18 bytes, 24 for inputs, 56 for latches, 32 for
        // outputs, 3600 for ands and 924 for symbols.
        private static final int MOST_WRITTEN = 4654;

        private final int[] bytes = new int[MOST_WRITTEN];
        private final int[] newVariable = new int[MOST_VARIABLES + 1];
        private int length = 0;
        private boolean written = false;

        void forget() {
            length = 0;
            written = false;
        }

        int byteOf(int i) {
            return i < 0 || i >= length ? NONE : bytes[i];
        }

        void writeText(Circuit c) {
            if (written) {
                return;
            }
            written = true;
            putHeader(c, 'a', c.top);
            for (int k = 0; k < c.inputs; k++) {
                putNumber(2 * c.inputVariable[k], LINE_END);
            }
            for (int k = 0; k < c.latches; k++) {
                putNumber(2 * c.latchVariable[k], BLANK);
                putNumber(c.latchNext[k], LINE_END);
            }
            for (int k = 0; k < c.outputs; k++) {
                putNumber(c.outputLiteral[k], LINE_END);
            }
            for (int i = 0; i < c.ands; i++) {
                putNumber(2 * c.andVariable[i], BLANK);
                putNumber(c.andFirst[i], BLANK);
                putNumber(c.andSecond[i], LINE_END);
            }
            putSymbols(c);
        }

        void writeBinary(Circuit c) {
            if (written) {
                return;
            }
            written = true;
            numberAnew(c);
            putHeader(c, 'i', c.inputs + c.latches + c.ands);
            for (int k = 0; k < c.latches; k++) {
                putNumber(newLiteral(c.latchNext[k]), LINE_END);
            }
            for (int k = 0; k < c.outputs; k++) {
                putNumber(newLiteral(c.outputLiteral[k]), LINE_END);
            }
            for (int i = 0; i < c.ands; i++) {
                putBinaryAnd(c, c.order[i]);
            }
            putSymbols(c);
        }

        private void numberAnew(Circuit c) {
            int last = 0;
            for (int k = 0; k < c.inputs; k++) {
                last++;
                newVariable[c.inputVariable[k]] = last;
            }
            for (int k = 0; k < c.latches; k++) {
                last++;
                newVariable[c.latchVariable[k]] = last;
            }
            for (int i = 0; i < c.ands; i++) {
                last++;
                newVariable[c.andVariable[c.order[i]]] = last;
            }
        }

        private int newLiteral(int literal) {
            return 2 * newVariable[literal >> 1] + (literal & 1);
        }

        private void putHeader(Circuit c, int letter, int top) {
            put('a');
            put(letter);
            put('g');
            put(BLANK);
            putNumber(top, BLANK);
            putNumber(c.inputs, BLANK);
            putNumber(c.latches, BLANK);
            putNumber(c.outputs, BLANK);
            putNumber(c.ands, LINE_END);
        }

        private void putBinaryAnd(Circuit c, int and) {
            int first = newLiteral(c.andFirst[and]);
            int second = newLiteral(c.andSecond[and]);
            int greater = Math.max(first, second);
            putDelta(2 * newVariable[c.andVariable[and]] - greater);
            putDelta(greater - Math.min(first, second));
        }

        private void putSymbols(Circuit c) {
            for (int kind = 0; kind < KINDS; kind++) {
                for (int k = 0; k < c.countOf(kind); k++) {
                    if (c.nameLength[slotOf(kind, k)] > 0) {
                        put(KIND_LETTERS.charAt(kind));
                        putNumber(k, BLANK);
                        putName(c, slotOf(kind, k));
                    }
                }
            }
        }

        private void putName(Circuit c, int slot) {
            for (int i = 0; i < c.nameLength[slot]; i++) {
                put(c.nameBytes[slot * MOST_NAME + i]);
            }
            put(LINE_END);
        }

        /** No number of a circuit has more than three digits. */
        private void putNumber(int number, int behind) {
            if (number >= 100) {
                put('0' + number / 100);
            }
            if (number >= 10) {
                put('0' + number / 10 % 10);
            }
            put('0' + number % 10);
            put(behind);
        }

        /** No delta of a circuit within the bounds has more than two bytes. */
        private void putDelta(int delta) {
            if (delta >= 128) {
                put(128 + (delta & 127));
                put(delta >> 7);
            } else {
                put(delta);
            }
        }

        private void put(int b) {
            if (length < MOST_WRITTEN) {
                bytes[length] = b;
                length++;
            }
        }
    }
}
