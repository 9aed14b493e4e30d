/** The promises one by one, on ordinary inputs and on wrong ones; their edges stand in EdgesTest. */
public final class PromisesTest {
    private static final int NONE = CircuitFiles.NONE;
    private static final int[] ODD_NUMBERS = {NONE, -2, 1000, Integer.MAX_VALUE, Integer.MIN_VALUE};

    /** Two inputs, two latches, variables 3 and 4 undefined, ands against their order. */
    private static final String MIXED = "aag 9 2 2 3 3\n4\n2\n10 13\n12 18\n14\n11\n1\n"
        + "14 18 4\n16 5 10\n18 2 13\no2 one\nl0 a b\ni1 x\ni0 yy\nc\nany thing";

    private static final Checks checks = new Checks();

    private PromisesTest() {
    }

    public static void main(String[] args) {
        newObject();
        feed();
        end();
        load();
        loadForgetsTheFilesBefore();
        loadLeavesTheCircuitBefore();
        fault();
        many();
        symbol();
        textForm();
        binaryForm();
        resetAndState();
        value();
        step();
        checks.finish();
    }

    private static void newObject() {
        Bench x = new Bench();
        checks.same("NONE", CircuitFiles.NONE, -1);
        checks.same("new: end(0)", x.call().end(0), 0);
        for (int what = 0; what <= 4; what++) {
            checks.same("new: many(" + what + ")", x.call().many(what), 0);
        }
        checks.same("new: fault(0)", x.call().fault(0), 0);
        checks.same("new: fault(1)", x.call().fault(1), NONE);
        checks.same("new: text", x.form(false), "aag 0 0 0 0 0\n");
        checks.same("new: binary", x.form(true), "aig 0 0 0 0 0\n");
        checks.same("new: state()", x.call().state(), 0);
        checks.same("new: step(-1)", x.call().step(-1), 0);
        checks.same("new: value(0, -1)", x.call().value(0, -1), 0);
        checks.same("new: value(1, 0)", x.call().value(1, 0), 1);
        checks.same("new: value(2, 0)", x.call().value(2, 0), NONE);
        checks.same("new: symbol(0, 0, 0)", x.call().symbol(0, 0, 0), NONE);
        checks.same("new: empty tape", x.read(""), "fault 1 at 0");
    }

    private static void feed() {
        Bench x = new Bench();
        String name = "\u00ff\u0080\u007f\u0000\u0001";
        checks.same("feed: highest byte first", x.read("aag 1 1 0 0 0\n2\ni0 " + name + "\n"), "ands 0");
        checks.same("feed: bytes above 127", x.name(0, 0), name);

        x.call().feed(1, 2, 3, 4, 5);
        x.call().feed(0x61616720, 0x30203020, 0x30203020, 0x300a780a, 0);
        checks.same("feed: the latest counts", x.call().end(14), 14);
        checks.same("feed: the latest counts", x.load(), "ands 0");
        checks.same("feed: all twenty bytes", x.read("aag 0 0 0 0 0\nc\n1234"), "ands 0");
    }

    private static void end() {
        Bench x = new Bench();
        x.call().feed(0x61616720, 0x30203020, 0x30203020, 0x300a630a, 0x61626364);
        for (int n : new int[] {-1, 21, Integer.MIN_VALUE, Integer.MAX_VALUE}) {
            checks.same("end(" + n + ")", x.call().end(n), NONE);
        }
        checks.same("end: the bytes stay ready behind NONE", x.call().end(13), 13);
        checks.same("end: the bytes are 0 then", x.call().end(1), 14);
        checks.same("end: a 0 for the line's end", x.load(), "throws");
        checks.same("end: a 0 for the line's end", x.call().fault(1), 13);

        x.call().feed(0x61616720, 0, 0, 0, 0);
        checks.same("end(0)", x.call().end(0), 0);
        checks.same("end(0) makes the bytes 0 too", x.call().end(1), 1);
        checks.same("end(0) makes the bytes 0 too", x.load(), "throws");
        checks.same("end(0) makes the bytes 0 too", x.call().fault(1), 0);
        checks.same("end: 20, twice", x.put("aag 0 0 0 0 0\nc\n" + "x".repeat(24)), 40);
        checks.same("end: 20, twice", x.load(), "ands 0");
    }

    private static void load() {
        Bench x = new Bench();
        checks.same("load: text", x.read(MIXED), "ands 3");
        checks.same("load: the tape is empty", x.call().end(0), 0);
        checks.same("load: binary", x.read("aig 3 2 0 1 1\n7\n\2\2"), "ands 1");
        checks.same("load: a delta of two bytes", x.read("aig 3 2 0 1 1\n7\n\u0082\0\u0082\u0080\0"), "ands 1");
        checks.same("load: its operands", x.form(false), "aag 3 2 0 1 1\n2\n4\n7\n6 4 2\n");

        Bench y = new Bench();
        y.read("aag 1 0 1 0 0\n2 1\n");
        for (int times = 0; times < 4; times++) {
            y.call().step(0);
            checks.same("load: a latch is 1", y.call().state(), 1);
            y.read("aag 1 0 1 0 0\n2 1\n");
            checks.same("load: all latches are 0", y.call().state(), 0);
        }
    }

    private static void loadForgetsTheFilesBefore() {
        Bench x = new Bench();
        for (int times = 0; times < 3; times++) {
            checks.same("load: variables of files before", x.read("aag 400 2 0 0 0\n2\n800\n"), "ands 0");
            checks.same("load: a literal of files before", x.read("aag 4 0 0 1 0\n8\n"), "fault 5 at 14");
            checks.same("load: loops of files before", x.read("aag 1 0 0 0 1\n2 2 2\n"), "fault 6 at 1");
            checks.same("load: names of files before", x.read("aag 1 1 0 0 0\n2\ni0 x\n"), "ands 0");
            checks.same("load: the other form before", x.read("aig 1 1 0 0 0\ni0 x\n"), "ands 0");
        }
    }

    private static void loadLeavesTheCircuitBefore() {
        Bench x = new Bench();
        x.read("aag 2 1 1 1 0\n2\n4 1\n4\ni0 in\n");
        x.call().step(0);
        String[] bad = {
            "aag 9 5 2 1 1\n2\n4\n6\n8\n10\n12 13\n14 12\n5\n16 0 4\ni0 other\ni1 z\nx",
            "aig 3 2 0 1 1\n7\n\2\7", "aag 401 0 0 0 0\n", "aag 2 0 1 0 0\n2 4\n", "aag 2 0 0 0 1\n4 4 4\n"};
        for (String file : bad) {
            checks.same("load: refused", x.read(file).substring(0, 5), "fault");
            checks.same("load: the tape is empty behind a fault", x.call().end(0), 0);
            checks.same("load: the latches stay", x.call().state(), 1);
            checks.same("load: M stays", x.call().many(0), 2);
            checks.same("load: the name stays", x.name(0, 0), "in");
            checks.same("load: the text stays", x.form(false), "aag 2 1 1 1 0\n2\n4 1\n4\ni0 in\n");
        }
        checks.same("load: it still runs", x.call().step(0), 1);
    }

    private static void fault() {
        Bench x = new Bench();
        checks.same("fault", x.read("aag 1 1 0 0 0\n3\n"), "fault 4 at 14");
        for (int what : new int[] {2, 3, -1, Integer.MIN_VALUE, Integer.MAX_VALUE}) {
            checks.same("fault(" + what + ")", x.call().fault(what), NONE);
        }
        x.put("aag 0 0 0 0 0\n");
        checks.same("fault: of the latest load", x.call().fault(0), 4);
        checks.same("fault: gone with a sound file", x.load(), "ands 0");
        checks.same("fault: gone with a sound file", x.call().fault(0), 0);
        checks.same("fault: gone with a sound file", x.call().fault(1), NONE);
    }

    private static void many() {
        Bench x = new Bench();
        x.read(MIXED);
        int[] due = {9, 2, 2, 3, 3};
        for (int what = 0; what < due.length; what++) {
            checks.same("many(" + what + ")", x.call().many(what), due[what]);
        }
        for (int what : new int[] {5, -1, Integer.MIN_VALUE, Integer.MAX_VALUE}) {
            checks.same("many(" + what + ")", x.call().many(what), NONE);
        }
    }

    private static void symbol() {
        Bench x = new Bench();
        x.read(MIXED);
        String[][] due = {{"yy", "x", ""}, {"a b", "", ""}, {"", "", "one", ""}};
        for (int kind = 0; kind < due.length; kind++) {
            for (int k = 0; k < due[kind].length; k++) {
                checks.same("name " + kind + " " + k, x.name(kind, k), due[kind][k]);
            }
        }
        for (int odd : ODD_NUMBERS) {
            checks.same("symbol(" + odd + ", 0, 0)", x.call().symbol(odd, 0, 0), NONE);
            checks.same("symbol(0, " + odd + ", 0)", x.call().symbol(0, odd, 0), NONE);
            checks.same("symbol(0, 0, " + odd + ")", x.call().symbol(0, 0, odd), NONE);
        }
        checks.same("symbol(3, 0, 0)", x.call().symbol(3, 0, 0), NONE);
        checks.same("symbol(1, 0, 3)", x.call().symbol(1, 0, 3), NONE);

        String longest = "n".repeat(39) + " ";
        x.read("aag 0 0 0 8 0\n0\n0\n0\n0\n0\n0\n0\n0\no7 " + longest + "\n");
        checks.same("a name of 40 bytes", x.name(2, 7), longest);
        checks.same("names go with their circuit", x.name(2, 2), "");
        x.read("aag 1 1 0 8 0\n2\n0\n0\n0\n0\n0\n0\n0\n0\n");
        checks.same("names go with their circuit", x.name(0, 0), "");
        checks.same("names go with their circuit", x.name(2, 7), "");
    }

    private static void textForm() {
        Bench x = new Bench();
        x.read(MIXED);
        checks.same("text: own literals and order, symbols sorted, no comment", x.form(false),
            "aag 9 2 2 3 3\n4\n2\n10 13\n12 18\n14\n11\n1\n14 18 4\n16 5 10\n18 2 13\ni0 yy\ni1 x\nl0 a b\no2 one\n");
        for (int odd : ODD_NUMBERS) {
            checks.same("form(false, " + odd + ")", x.call().form(false, odd), NONE);
            checks.same("form(true, " + odd + ")", x.call().form(true, odd), NONE);
        }
        String digits = "aag 54 1 0 5 0\n100\n0\n1\n100\n101\n100\ni0 ten 10\n";
        x.read(digits);
        checks.same("text: numbers of one to three digits", x.form(false), digits);
        String tens = "aag 10 2 0 2 0\n10\n8\n9\n10\n";
        x.read(tens);
        checks.same("text: 9 and 10", x.form(false), tens);
        x.read("aig 4 1 1 1 2\n9\n5\n\1\0\u0004\u0001c\n..");
        checks.same("text: of a binary file", x.form(false), "aag 4 1 1 1 2\n2\n4 9\n5\n6 5 5\n8 4 3\n");
    }

    private static void binaryForm() {
        Bench x = new Bench();
        x.read(MIXED);
        // Old variables 2, 1, 5, 6 are the new 1 .. 4; the ands come as 8, 9, 7: the new 5, 6, 7.
        checks.same("binary: numbered anew", x.form(true),
            "aig 7 2 2 3 3\n9\n12\n14\n7\n1\n\4\3\3\5\2\12i0 yy\ni1 x\nl0 a b\no2 one\n");
        checks.same("binary: of a new circuit", x.read("aig 3 2 0 1 1\n7\n\2\2i0 q\n"), "ands 1");
        checks.same("binary: of a new circuit", x.form(true), "aig 3 2 0 1 1\n7\n\2\2i0 q\n");
        x.read("aag 400 1 0 1 1\n800\n400\n400 0 801\n");
        checks.same("binary: variables without use go", x.form(true), "aig 2 1 0 1 1\n4\n\1\3");
    }

    private static void resetAndState() {
        Bench x = new Bench();
        x.read("aag 7 0 7 0 0\n2 1\n4 3\n6 5\n8 1\n10 0\n12 1\n14 1\n");
        checks.same("state", x.call().state(), 0);
        x.call().step(0);
        checks.same("state: latch 0 the lowest", x.call().state(), 0b1101111);
        x.call().reset();
        checks.same("reset: state", x.call().state(), 0);
        checks.same("reset: value", x.call().value(2, 0), 0);
        checks.same("reset: the circuit stays", x.call().many(2), 7);
        x.call().step(0);
        checks.same("reset: from the start again", x.call().state(), 0b1101111);
    }

    private static void value() {
        Bench x = new Bench();
        x.read("aag 9 6 1 0 1\n2\n4\n6\n8\n10\n12\n16 17\n18 17 12\n");
        for (int k = 0; k < 6; k++) {
            checks.same("value: input " + k, x.call().value(2 * k + 2, 1 << k), 1);
            checks.same("value: input " + k, x.call().value(2 * k + 2, ~(1 << k)), 0);
            checks.same("value: not input " + k, x.call().value(2 * k + 3, 1 << k), 0);
        }
        checks.same("value(0)", x.call().value(0, -1), 0);
        checks.same("value(1)", x.call().value(1, 0), 1);
        checks.same("value: defined nowhere", x.call().value(14, -1), NONE);
        checks.same("value: defined nowhere", x.call().value(15, -1), NONE);
        checks.same("value: the last literal", x.call().value(19, 32), 0);
        checks.same("value: behind it", x.call().value(20, 32), NONE);
        for (int odd : ODD_NUMBERS) {
            checks.same("value(" + odd + ")", x.call().value(odd, -1), NONE);
        }
        checks.same("value: and", x.call().value(18, 32), 1);
        checks.same("value: it does not step", x.call().state(), 0);
        x.call().step(0);
        checks.same("value: with the latch at 1", x.call().value(18, 32), 0);
        checks.same("value: latch", x.call().value(16, 0), 1);
        checks.same("value: not latch", x.call().value(17, 0), 0);
        x.read("aag 9 0 0 0 0\n");
        checks.same("value: of the circuit before", x.call().value(2, -1), NONE);
    }

    private static void step() {
        Bench x = new Bench();
        // Two latches that change places, the first negated: each takes the other's old bit.
        x.read("aag 3 1 2 3 0\n2\n4 7\n6 4\n4\n6\n3\n");
        int[] outputs = {0, 1, 3, 2, 0};
        int[] states = {1, 3, 2, 0, 1};
        for (int i = 0; i < outputs.length; i++) {
            checks.same("step " + i, x.call().step(1), outputs[i]);
            checks.same("state " + i, x.call().state(), states[i]);
        }
        checks.same("step: the input's bit alone", x.call().step(-2), 4 + 1);
        x.read("aag 0 0 0 8 0\n1\n0\n0\n0\n0\n0\n0\n1\n");
        checks.same("step: output 0 the lowest, output 7 the highest", x.call().step(0), 129);
        x.read("aag 4 2 0 1 2\n2\n4\n8\n8 6 7\n6 2 4\n");
        checks.same("step: ands against their order", x.call().step(3), 0);
        x.read("aag 4 2 0 1 2\n2\n4\n8\n8 6 1\n6 2 5\n");
        checks.same("step: ands against their order", x.call().step(1), 1);
        checks.same("step: ands against their order", x.call().step(3), 0);
        longestStep();
    }

    /** Each and negates the one before: 300 of them, and an output at each end. */
    private static void longestStep() {
        StringBuilder file = new StringBuilder("aag 400 1 1 2 300\n2\n800 799\n798\n200\n200 2 1\n");
        for (int v = 101; v < 400; v++) {
            file.append(2 * v).append(" 1 ").append(2 * v - 1).append('\n');
        }
        Bench x = new Bench();
        checks.same("step: 300 ands", x.read(file.toString()), "ands 300");
        checks.same("step: 300 ands", x.call().step(1), 2);
        checks.same("step: 300 ands", x.call().state(), 1);
        checks.same("step: 300 ands", x.call().step(0), 1);
        checks.same("step: 300 ands", x.call().state(), 0);
        checks.same("value: 300 ands", x.call().value(799, 1), 1);
    }
}
