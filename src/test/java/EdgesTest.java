/** Each sentence of the promises, and of the bound on calls, that names a boundary case, one by one. */
public final class EdgesTest {
    private static final int NONE = CircuitFiles.NONE;
    private static final int LEAST = Integer.MIN_VALUE;
    private static final int MOST = Integer.MAX_VALUE;
    private static final String EMPTY = "aag 0 0 0 0 0\n";
    private static final String ONE_NAME = "aag 1 1 0 0 0\n2\ni0 ";
    private static final Checks checks = new Checks();

    private EdgesTest() {
    }

    public static void main(String[] args) {
        calls512();
        newTape();
        newCircuit();
        feedTwentyBytes();
        feedReplaces();
        readyAtFirst();
        readyBehindEnd();
        endTakesTheFirst();
        endOfWrongNumber();
        endOfFullTape();
        loadEmptiesTheTape();
        loadAnswersTheAnds();
        loadSetsLatches0();
        loadRefuses();
        faultOfTheLatestLoad();
        faultWithoutOne();
        faultOfAnotherWhat();
        manyOfNothingAndMost();
        manyOfAnotherWhat();
        symbolNotThere();
        symbolBytes();
        textOwnLiteralsAndOrder();
        symbolsSorted();
        noComment();
        binaryNumberedAnew();
        greaterOperandFirst();
        formBehindItsEnd();
        longestForms();
        reset();
        state();
        valueOfInputs();
        valueWithLatches();
        valueOfNoLiteral();
        valueOfUndefined();
        stepOutputs();
        stepInputs();
        stepLatches();
        checks.finish();
    }

    private static void calls512() {
        checks.sentence("An object is used for at most 512 calls after it has been made");
        Bench counter = new Bench();
        checks.same("a counter", counter.read(Samples.counter()), "ands 18");
        for (int i = 0; counter.callsLeft() > 0; i++) {
            checks.same("step " + i, counter.call().step(0), i % 128);
        }
        Bench loads = new Bench();
        while (loads.callsLeft() > 0) {
            checks.same("load of nothing", loads.load(), "throws");
        }
        Bench ends = new Bench();
        for (int i = 1; ends.callsLeft() > 0; i++) {
            checks.same("end " + i, ends.call().end(20), i <= 300 ? 20 * i : NONE);
        }
        for (String last : new String[] {Samples.TEXT, Samples.BINARY, "aag"}) {
            Bench x = new Bench();
            x.put(last);
            while (x.callsLeft() > 1) {
                checks.same("state", x.call().state(), 0);
            }
            checks.same("load as the last call", x.load(), last.equals("aag") ? "throws" : "ands 1");
        }
    }

    private static void newTape() {
        checks.sentence("The tape is empty");
        checks.same("end(0)", new CircuitFiles().end(0), 0);
        checks.same("end(1)", new CircuitFiles().end(1), 1);
        checks.same("load()", new Bench().read(""), "fault 1 at 0");
    }

    private static void newCircuit() {
        checks.sentence("there is the circuit of the file \"aag 0 0 0 0 0\" and a line's end");
        Bench fresh = new Bench();
        Bench loaded = new Bench();
        checks.same("load()", loaded.read(EMPTY), "ands 0");
        for (Bench x : new Bench[] {fresh, loaded}) {
            for (int what = 0; what <= 4; what++) {
                checks.same("many(" + what + ")", x.call().many(what), 0);
            }
            checks.same("text", x.form(false), EMPTY);
            checks.same("binary", x.form(true), "aig 0 0 0 0 0\n");
            checks.same("fault(0)", x.call().fault(0), 0);
            checks.same("fault(1)", x.call().fault(1), NONE);
            checks.same("value(0, -1)", x.call().value(0, -1), 0);
            checks.same("value(1, 0)", x.call().value(1, 0), 1);
            checks.same("value(2, 0)", x.call().value(2, 0), NONE);
            checks.same("step(-1)", x.call().step(-1), 0);
            x.call().reset();
            checks.same("state()", x.call().state(), 0);
            for (int kind = 0; kind < 3; kind++) {
                checks.same("symbol(" + kind + ", 0, 0)", x.call().symbol(kind, 0, 0), NONE);
            }
        }
    }

    private static void feedTwentyBytes() {
        checks.sentence("Puts twenty bytes ready, those of a first, the highest of each first.");
        checks.same("bytes", nameOf(0x01020304, 0x05060708, 0x090b0c0d, 0x0e0f1011, 0x12131415),
            "\1\2\3\4\5\6\7\10\11\13\14\15\16\17\20\21\22\23\24\25");
        checks.same("the least and the greatest", nameOf(LEAST, MOST, -1, 0, 1),
            "\u0080\0\0\0\u007f\u00ff\u00ff\u00ff\u00ff\u00ff\u00ff\u00ff\0\0\0\0\0\0\0\1");
        checks.same("highest bits", nameOf(0x80818283, 0xfefdfcfb, 0x7f80ff00, -2, -256),
            "\u0080\u0081\u0082\u0083\u00fe\u00fd\u00fc\u00fb\u007f\u0080\u00ff\0"
            + "\u00ff\u00ff\u00ff\u00fe\u00ff\u00ff\u00ff\0");
    }

    private static String nameOf(int a, int b, int c, int d, int e) {
        Bench x = new Bench();
        x.put(ONE_NAME);
        x.call().feed(a, b, c, d, e);
        checks.same("end(20)", x.call().end(20), ONE_NAME.length() + 20);
        x.put("\n");
        checks.same("load()", x.load(), "ands 0");
        return x.name(0, 0);
    }

    private static void feedReplaces() {
        checks.sentence("Puts twenty bytes ready");
        Bench x = new Bench();
        x.put(ONE_NAME);
        x.call().feed(-1, -1, -1, -1, -1);
        x.call().feed(0x61000000, 0, 0, 0, 0x62);
        x.call().end(20);
        x.put("\n");
        checks.same("the feed before is gone", x.load(), "ands 0");
        checks.same("the feed before is gone", x.name(0, 0), "a" + "\0".repeat(18) + "b");
        x.call().feed(0x61616720, 0, 0, 0, 0);
        checks.same("nothing comes to the tape by it", x.call().end(0), 0);
    }

    private static void readyAtFirst() {
        checks.sentence("They are 0 at first");
        Bench x = new Bench();
        checks.same("end(20)", x.call().end(20), 20);
        checks.same("load()", x.load(), "throws");
        checks.same("fault(1)", x.call().fault(1), 0);
    }

    private static void readyBehindEnd() {
        checks.sentence("and behind each end() that answers a number");
        for (int n = 0; n <= 20; n++) {
            Bench x = new Bench();
            x.put(ONE_NAME);
            x.call().feed(0x61616161, 0x61616161, 0x61616161, 0x61616161, 0x61616161);
            x.call().end(n);
            x.call().end(20);
            x.put("\n");
            checks.same("end(" + n + ")", x.load(), "ands 0");
            checks.same("end(" + n + ")", x.name(0, 0), "a".repeat(n) + "\0".repeat(20));
        }
        Bench x = new Bench();
        x.put(ONE_NAME);
        x.call().feed(0x61626364, 0, 0, 0, 0);
        checks.same("end(21)", x.call().end(21), NONE);
        checks.same("end(-1)", x.call().end(-1), NONE);
        x.call().end(4);
        x.put("\n");
        checks.same("behind NONE they stay", x.load(), "ands 0");
        checks.same("behind NONE they stay", x.name(0, 0), "abcd");
    }

    private static void endTakesTheFirst() {
        checks.sentence("The first n of the bytes that are ready come to the tape: how many it has.");
        Bench x = new Bench();
        int due = 0;
        for (int n = 0; n <= 20; n++) {
            due += n;
            checks.same("end(" + n + ")", x.call().end(n), due);
        }
        checks.same("by ones", byPieces(Samples.TEXT, 1), "ands 1");
        checks.same("by nineteens", byPieces(Samples.TEXT, 19), "ands 1");
        checks.same("by twenties", byPieces(Samples.TEXT, 20), "ands 1");
    }

    private static String byPieces(String file, int size) {
        Bench x = new Bench();
        for (int at = 0; at < file.length(); at += size) {
            x.put(file.substring(at, Math.min(file.length(), at + size)));
        }
        return x.load();
    }

    private static void endOfWrongNumber() {
        checks.sentence("NONE, and nothing comes, if n is not 0 .. 20");
        Bench x = new Bench();
        x.put("abc");
        for (int n : new int[] {-1, -20, 21, 22, 40, 256, 5997, 6000, 1 << 16, LEAST, LEAST + 20, MOST, MOST - 2}) {
            checks.same("end(" + n + ")", x.call().end(n), NONE);
            checks.same("end(0) behind end(" + n + ")", x.call().end(0), 3);
        }
        checks.same("end(20)", x.call().end(20), 23);
    }

    private static void endOfFullTape() {
        checks.sentence("or it would have more than 6000");
        Bench x = new Bench();
        checks.same("5980", x.put(EMPTY + "c\n" + "\0".repeat(5964)), 5980);
        checks.same("end(1)", x.call().end(1), 5981);
        x.call().feed(0x61616720, 0x30203020, 0x30203020, 0x300a0000, 0);
        checks.same("end(20) to 6001", x.call().end(20), NONE);
        checks.same("end(19) to 6000", x.call().end(19), 6000);
        x.call().feed(0x61616720, 0x30203020, 0x30203020, 0x300a0000, 0);
        checks.same("end(1) to 6001", x.call().end(1), NONE);
        checks.same("end(14) to 6014", x.call().end(14), NONE);
        checks.same("end(20) to 6020", x.call().end(20), NONE);
        checks.same("end(MOST)", x.call().end(MOST), NONE);
        checks.same("load of 6000", x.load(), "ands 0");
        checks.same("the bytes stay ready", x.call().end(14), 14);
        checks.same("the bytes stay ready", x.load(), "ands 0");

        Bench y = new Bench();
        y.put(EMPTY + "c\n" + "\0".repeat(5964));
        checks.same("end(20) to 6000", y.call().end(20), 6000);
        checks.same("end(0) to 6000", y.call().end(0), 6000);
        checks.same("end(1) to 6001", y.call().end(1), NONE);
        checks.same("load of 6000", y.load(), "ands 0");
    }

    private static void loadEmptiesTheTape() {
        checks.sentence("The tape is read as a file, and is empty then");
        Bench x = new Bench();
        for (String file : new String[] {Samples.TEXT, Samples.BINARY, "aag 401", "", EMPTY + "x"}) {
            x.read(file);
            checks.same("end(0) behind " + Checks.shown(file), x.call().end(0), 0);
        }
        checks.same("load again", x.read(""), "fault 1 at 0");
        checks.same("a longer file", x.read("aag 1 1 0 0 0\n2\n"), "ands 0");
        checks.same("its end does not come again", x.read("aag 1 1 0 0 0\n"), "fault 1 at 14");
        checks.same("its end does not come again", x.read("aag 1 1 0 0 0\n2"), "fault 1 at 15");
    }

    private static void loadAnswersTheAnds() {
        checks.sentence("how many ands the circuit has");
        checks.reads(EMPTY, "ands 0");
        checks.reads("aag 1 0 0 0 1\n2 0 0\n", "ands 1");
        checks.reads(Samples.chainFromItsEnd(299), "ands 299");
        checks.reads(Samples.chainFromItsEnd(300), "ands 300");
        checks.reads("aig 299 0 0 0 299\n" + "\1\0".repeat(299), "ands 299");
        checks.reads("aig 300 0 0 0 300\n" + "\1\0".repeat(300), "ands 300");
    }

    private static void loadSetsLatches0() {
        checks.sentence("all latches are 0");
        String file = "aig 7 0 7 0 0\n" + "1\n".repeat(7);
        Bench x = new Bench();
        for (int times = 0; times < 3; times++) {
            checks.same("load()", x.read(file), "ands 0");
            checks.same("state behind load", x.call().state(), 0);
            x.call().step(0);
            checks.same("state behind step", x.call().state(), 127);
        }
    }

    private static void loadRefuses() {
        checks.sentence("IllegalArgumentException if there is a fault (the circuit before stays)");
        String text = "aag 9 2 2 2 2\n2\n4\n16 1\n18 3\n16\n12\n14 12 4\n12 2 18\ni1 in\nl0 on\no1 out\n";
        Bench x = new Bench();
        checks.same("load()", x.read(text), "ands 2");
        checks.same("step", x.call().step(0), 0);
        String[] bad = {"", "aag 9 6 2 1 0\n2\n4\n6\n8\n10\n12\n14 13\n18 12\n5\ni0 other\ni1 z\nx",
            "aag 401 0 0 0 0\n", "aag 2 1 0 0 0\n6\n", "aig 3 2 0 1 1\n7\n\2\7", "aag 2 2 0 0 0\n4\n4\n",
            "aag 2 0 1 0 0\n2 4\n", "aag 9 0 0 0 2\n18 18 0\n2 0 0\n"};
        for (String file : bad) {
            x.put(file);
            checks.same("load of " + Checks.shown(file), thrown(x.call()), "java.lang.IllegalArgumentException");
            checks.same("state", x.call().state(), 3);
            checks.same("M", x.call().many(0), 9);
            checks.same("name", x.name(0, 1) + x.name(1, 0) + x.name(2, 1), "inonout");
            checks.same("value of 12", x.call().value(12, 1), 1);
            checks.same("value of 14", x.call().value(14, 3), 1);
        }
        checks.same("text", x.form(false), text);
        checks.same("it still runs", x.call().step(1), 3);
        checks.same("it still runs", x.call().state(), 1);
    }

    private static String thrown(CircuitFiles files) {
        try {
            return "ands " + files.load();
        } catch (RuntimeException e) {
            return e.getClass().getName();
        }
    }

    private static void faultOfTheLatestLoad() {
        checks.sentence("Of the latest load(): the fault (what = 0)");
        Bench x = new Bench();
        String[] files = {"x", "aag 401 0 0 0 0\n", "aag 1 1 0 0 0\n4\n", "aag 1 1 0 0 0\n3\n",
            "aag 1 0 0 1 0\n2\n", "aag 9 0 0 0 1\n18 18 0\n"};
        int[] places = {0, 16, 14, 14, 14, 9};
        for (int i = 0; i < files.length; i++) {
            x.put(files[i]);
            x.load();
            checks.same("fault(0)", x.call().fault(0), i + 1);
            checks.same("fault(1)", x.call().fault(1), places[i]);
            x.call().step(0);
            x.call().reset();
            x.put("aag 1");
            checks.same("fault(0) stays until the next load()", x.call().fault(0), i + 1);
            checks.same("fault(1) stays until the next load()", x.call().fault(1), places[i]);
            checks.same("another load()", x.load(), "throws");
            checks.same("another fault", x.call().fault(1), 5);
        }
    }

    private static void faultWithoutOne() {
        checks.sentence("0 without one; its place (1), NONE without one");
        Bench x = new Bench();
        checks.same("before a load: fault(0)", x.call().fault(0), 0);
        checks.same("before a load: fault(1)", x.call().fault(1), NONE);
        x.put("aag 9 0 0 0 1\n18 18 0\n");
        x.load();
        x.put(EMPTY);
        checks.same("load()", x.load(), "ands 0");
        checks.same("behind a sound file: fault(0)", x.call().fault(0), 0);
        checks.same("behind a sound file: fault(1)", x.call().fault(1), NONE);
    }

    private static void faultOfAnotherWhat() {
        checks.sentence("NONE for another what.");
        Bench x = new Bench();
        for (String file : new String[] {EMPTY, "x", "aag 1 1 0 0 0\n3\n"}) {
            x.read(file);
            for (int what : new int[] {-1, 2, 3, 256, 1 << 16, LEAST, MOST}) {
                checks.same("fault(" + what + ")", x.call().fault(what), NONE);
            }
        }
    }

    private static void manyOfNothingAndMost() {
        checks.sentence("M (0), inputs (1), latches (2), outputs (3), ands (4)");
        String[] files = {EMPTY, "aag 400 0 0 0 0\n", "aig 6 6 0 0 0\n", "aig 7 0 7 0 0\n" + "0\n".repeat(7),
            "aag 0 0 0 8 0\n" + "0\n".repeat(8), Samples.longest(), "aig 300 0 0 0 300\n" + "\1\0".repeat(300)};
        int[][] dues = {{0, 0, 0, 0, 0}, {400, 0, 0, 0, 0}, {6, 6, 0, 0, 0}, {7, 0, 7, 0, 0}, {0, 0, 0, 8, 0},
            {400, 6, 7, 8, 300}, {300, 0, 0, 0, 300}};
        for (int i = 0; i < files.length; i++) {
            Bench x = new Bench();
            x.read(files[i]);
            for (int what = 0; what < 5; what++) {
                checks.same("many(" + what + ")", x.call().many(what), dues[i][what]);
            }
        }
    }

    private static void manyOfAnotherWhat() {
        checks.sentence("NONE for another what.");
        Bench x = new Bench();
        for (String file : new String[] {EMPTY, Samples.TEXT}) {
            x.read(file);
            for (int what : new int[] {-1, -5, 5, 6, 256, 1 << 16, LEAST, MOST}) {
                checks.same("many(" + what + ")", x.call().many(what), NONE);
            }
        }
    }

    private static void symbolNotThere() {
        checks.sentence("NONE if there is none");
        Bench x = new Bench();
        x.read("aag 4 2 2 2 0\n2\n4\n6 0\n8 0\n0\n0\ni0 abc\nl1 de\no0 f\n");
        int[] lengths = {3, 2, 1};
        for (int kind = 0; kind < 3; kind++) {
            int named = kind == 1 ? 1 : 0;
            checks.same("the last byte", x.call().symbol(kind, named, lengths[kind] - 1), "cef".charAt(kind));
            for (int i : new int[] {-1, lengths[kind], 39, 40, 80, 320, LEAST, MOST}) {
                checks.same("symbol(" + kind + ", " + named + ", " + i + ")", x.call().symbol(kind, named, i), NONE);
            }
            for (int k : new int[] {-1, 1 - named, 2, 6, 7, 8, 16, 1 << 29, LEAST, MOST}) {
                checks.same("symbol(" + kind + ", " + k + ", 0)", x.call().symbol(kind, k, 0), NONE);
            }
        }
        for (int kind : new int[] {-1, 3, 4, 1 << 29, LEAST, MOST}) {
            for (int k : new int[] {0, 1, -1, 8, -8, LEAST, MOST}) {
                checks.same("symbol(" + kind + ", " + k + ", 0)", x.call().symbol(kind, k, 0), NONE);
            }
        }
    }

    private static void symbolBytes() {
        checks.sentence("Byte i of the name of input (kind 0), latch (1), output (2) k");
        String start = "aig 13 6 7 8 0\n" + "0\n".repeat(15);
        String[] names = {"\0", "\u00ff", " ", "c", "\u0080" + "n".repeat(38) + "\u00ff", "i0 x"};
        for (int i = 0; i < names.length; i++) {
            Bench x = new Bench();
            int last = i % 2;
            x.read(start + "i" + 5 * last + " " + names[i] + "\nl" + 6 * last + " " + names[i] + "\no" + 7 * last + " "
                + names[i] + "\n");
            checks.same("input", x.name(0, 5 * last), names[i]);
            checks.same("latch", x.name(1, 6 * last), names[i]);
            checks.same("output", x.name(2, 7 * last), names[i]);
            for (int times = 0; times < 3; times++) {
                x.read(start);
                String left = x.name(0, 5 * last) + x.name(1, 6 * last) + x.name(2, 7 * last);
                checks.same("gone with the circuit", left, "");
            }
        }
    }

    private static void textOwnLiteralsAndOrder() {
        checks.sentence("as text: with the file's own literals and order");
        String[] files = {EMPTY, "aag 400 0 0 0 0\n", "aag 400 2 0 2 0\n800\n2\n801\n1\n",
            "aag 9 0 2 0 0\n18 0\n2 19\n", "aag 9 0 0 1 3\n5\n2 6 4\n6 0 1\n4 7 6\n", "aag 10 2 0 2 0\n10\n8\n9\n10\n",
            "aag 54 1 0 5 0\n100\n0\n1\n100\n101\n100\n",
            "aag 100 2 0 4 0\n98\n100\n98\n99\n100\n101\n"};
        for (String file : files) {
            checks.same("text", Bench.longForm(file, false), file);
        }
    }

    private static void symbolsSorted() {
        checks.sentence("symbols by inputs, latches, outputs, each by k");
        String text = "aag 4 2 2 2 0\n2\n4\n6 0\n8 0\n0\n0\n";
        String binary = "aig 4 2 2 2 0\n0\n0\n0\n0\n";
        String sorted = "i0 a\ni1 b\nl0 c\nl1 d\no0 e\no1 f\n";
        String mixed = "o1 f\nl1 d\ni1 b\no0 e\ni0 a\nl0 c\n";
        for (String start : new String[] {text, binary}) {
            checks.same("text", Bench.longForm(start + mixed, false), text + sorted);
            checks.same("binary", Bench.longForm(start + mixed, true), binary + sorted);
            checks.same("some", Bench.longForm(start + "o1 f\ni1 b\n", false), text + "i1 b\no1 f\n");
            checks.same("none", Bench.longForm(start, false), text);
        }
    }

    private static void noComment() {
        checks.sentence("no comment");
        for (String comment : new String[] {"c\n", "c\ni0 x\n", "c\n\0"}) {
            String text = "aag 2 1 0 1 1\n2\n4\n4 2 1\n";
            String binary = "aig 2 1 0 1 1\n4\n\2\1";
            checks.same("text", Bench.longForm(text + comment, false), text);
            checks.same("binary", Bench.longForm(text + comment, true), binary);
            checks.same("text", Bench.longForm(binary + comment, false), text);
            checks.same("binary", Bench.longForm(binary + comment, true), binary);
        }
    }

    private static void binaryNumberedAnew() {
        checks.sentence("binary: with variables numbered anew, inputs, latches in their order, ands in ORDER");
        String[] files = {EMPTY, "aag 400 0 0 0 0\n", "aag 400 2 0 2 0\n800\n2\n3\n801\n",
            "aag 400 0 2 0 0\n798 2\n2 799\n", "aag 400 1 1 1 1\n800\n798 400\n401\n400 801 799\n"};
        String[] dues = {"aig 0 0 0 0 0\n", "aig 0 0 0 0 0\n", "aig 2 2 0 2 0\n5\n3\n",
            "aig 2 0 2 0 0\n4\n3\n", "aig 3 1 1 1 1\n6\n7\n\1\2"};
        for (int i = 0; i < files.length; i++) {
            checks.same("binary", Bench.longForm(files[i], true), dues[i]);
        }
    }

    private static void greaterOperandFirst() {
        checks.sentence("the greater operand first");
        String[] operands = {"2 4", "4 2", "4 4", "4 5", "5 4", "0 1", "1 0", "0 0", "0 5", "5 0"};
        String[] deltas = {"\2\2", "\2\2", "\2\0", "\1\1", "\1\1", "\5\1", "\5\1", "\6\0", "\1\5", "\1\5"};
        for (int i = 0; i < operands.length; i++) {
            checks.same(operands[i], Bench.longForm("aag 3 2 0 0 1\n2\n4\n6 " + operands[i] + "\n", true),
                "aig 3 2 0 0 1\n" + deltas[i]);
            // The greater one is told by the new numbers, not by the file's own.
            String swapped = operands[i].replace('2', 'x').replace('4', '2').replace('x', '4').replace('5', '3');
            checks.same(swapped, Bench.longForm("aag 3 2 0 0 1\n4\n2\n6 " + swapped + "\n", true),
                "aig 3 2 0 0 1\n" + deltas[i]);
        }
    }

    private static void formBehindItsEnd() {
        checks.sentence("NONE behind its end");
        for (String file : new String[] {EMPTY, Samples.TEXT, Samples.BINARY}) {
            Bench x = new Bench();
            x.read(file);
            for (boolean binary : new boolean[] {false, true}) {
                int length = Bench.longForm(file, binary).length();
                checks.same("its last byte", x.call().form(binary, length - 1), '\n');
                for (int i : new int[] {length, length + 1, 4653, 4654, 6000, LEAST, -1, MOST}) {
                    checks.same("form(" + binary + ", " + i + ")", x.call().form(binary, i), NONE);
                }
                checks.same("its first byte", x.call().form(binary, 0), 'a');
            }
        }
        Bench x = new Bench();
        for (int times = 0; times < 2; times++) {
            x.read(Samples.BINARY);
            checks.same("a long one", x.form(true), Samples.BINARY);
            checks.same("a long one", x.form(false), "aag 3 1 1 1 1\n2\n4 7\n6\n6 4 2\no0 x\n");
            x.read(EMPTY);
            checks.same("a short one behind it", x.form(false) + x.form(true), EMPTY + "aig 0 0 0 0 0\n");
        }
    }

    private static void longestForms() {
        checks.sentence("Byte i of the circuit's file");
        String file = Samples.longest();
        checks.same("the longest text's length", file.length(), 4654);
        checks.same("the longest text", Bench.longForm(file, false), file);
        String binary = Bench.longForm(file, true);
        checks.same("its binary form's first line", binary.substring(0, 18), "aig 313 6 7 8 300\n");
        checks.same("its binary form", Bench.longForm(binary, true), binary);
        int names = binary.indexOf("i0 ");
        checks.same("its last and", binary.substring(names - 3, names), "\u00ef\4\1");
        checks.same("its names", binary.substring(names), file.substring(file.indexOf("i0 ")));
        // Deltas about the greatest one, and about the step from one byte to two.
        String ands = "aag 64 0 0 0 64\n";
        for (int v = 1; v < 64; v++) {
            ands += 2 * v + " 0 1\n";
        }
        String[] operands = {"0 1", "0 0", "126 0", "127 0"};
        String[] deltas = {"\u007f\1", "\u0080\1\0", "\2\176", "\1\u007f"};
        for (int i = 0; i < operands.length; i++) {
            String form = Bench.longForm(ands + "128 " + operands[i] + "\n", true);
            checks.same("deltas of 128 " + operands[i], form.substring(16 + 2 * 63), deltas[i]);
        }
    }

    private static void reset() {
        checks.sentence("All latches become 0.");
        Bench x = new Bench();
        x.call().reset();
        checks.same("without latches", x.call().state(), 0);
        x.read("aig 8 1 7 1 0\n" + "1\n".repeat(7) + "16\n");
        x.call().reset();
        checks.same("of zeros", x.call().state(), 0);
        x.call().step(0);
        checks.same("of ones", x.call().state(), 127);
        x.call().reset();
        checks.same("of ones", x.call().state(), 0);
        checks.same("of ones", x.call().value(16, 0), 0);
        checks.same("the circuit stays", x.call().many(2), 7);
        checks.same("the tape stays", x.put("abc"), 3);
        x.call().reset();
        checks.same("the tape stays", x.call().end(0), 3);
    }

    private static void state() {
        checks.sentence("The latches as bits, latch 0 the lowest.");
        Bench x = new Bench();
        checks.same("none", x.call().state(), 0);
        for (int one = 0; one < 7; one++) {
            x.read("aig 7 0 7 0 0\n" + "0\n".repeat(one) + "1\n" + "0\n".repeat(6 - one));
            checks.same("behind load", x.call().state(), 0);
            x.call().step(-1);
            checks.same("latch " + one, x.call().state(), 1 << one);
        }
        x.read("aag 9 0 2 0 0\n18 0\n2 1\n");
        x.call().step(0);
        checks.same("by the file, not by the variable", x.call().state(), 2);
    }

    private static void valueOfInputs() {
        checks.sentence("What a literal is, with the latches as they are, and input k as bit k of x");
        Bench x = new Bench();
        x.read("aag 6 6 0 0 0\n12\n10\n8\n6\n4\n2\n");
        for (int k = 0; k < 6; k++) {
            int literal = 12 - 2 * k;
            checks.same("input " + k + " alone", x.call().value(literal, 1 << k), 1);
            checks.same("all but input " + k, x.call().value(literal, ~(1 << k)), 0);
            checks.same("all", x.call().value(literal, -1), 1);
            checks.same("not input " + k, x.call().value(literal + 1, 1 << k), 0);
            checks.same("not input " + k, x.call().value(literal + 1, LEAST), 1);
            checks.same("bits behind the inputs", x.call().value(literal, MOST << 6), 0);
        }
        checks.same("value(0, -1)", x.call().value(0, -1), 0);
        checks.same("value(1, 0)", x.call().value(1, 0), 1);
    }

    private static void valueWithLatches() {
        checks.sentence("with the latches as they are, and input k as bit k of x");
        Bench x = new Bench();
        x.read("aag 4 1 1 0 2\n2\n4 5\n8 6 4\n6 2 1\n");
        for (int i = 0; i < 4; i++) {
            int latch = i % 2;
            checks.same("latch", x.call().value(4, 0), latch);
            checks.same("not latch", x.call().value(5, 0), 1 - latch);
            checks.same("and", x.call().value(8, 1), latch);
            checks.same("and", x.call().value(8, ~1), 0);
            checks.same("not and", x.call().value(9, 1), 1 - latch);
            checks.same("value does not step", x.call().state(), latch);
            x.call().step(0);
        }
        Bench most = new Bench();
        most.read(Samples.chainFromItsEnd(300));
        checks.same("300 ands", most.call().value(602, 1), 1);
        checks.same("300 ands", most.call().value(602, 0), 0);
        checks.same("299 ands", most.call().value(600, 1), 0);
        checks.same("not 299 ands", most.call().value(601, 1), 1);
    }

    private static void valueOfNoLiteral() {
        checks.sentence("NONE if it is no literal");
        Bench x = new Bench();
        for (int top : new int[] {0, 1, 399, 400}) {
            x.read("aag " + top + " " + (top == 0 ? "0 0 0 0\n" : "1 0 0 0\n" + 2 * top + "\n"));
            checks.same("the last literal", x.call().value(2 * top + 1, 0), 1);
            int[] wrong = {2 * top + 2, 2 * top + 3, 802, 803, 1000, -1, -2, -800, LEAST, LEAST + 1, MOST, MOST - 1};
            for (int literal : wrong) {
                checks.same("M = " + top + ", value(" + literal + ")", x.call().value(literal, -1), NONE);
            }
        }
    }

    private static void valueOfUndefined() {
        checks.sentence("or its variable is defined nowhere");
        Bench x = new Bench();
        x.read("aag 400 1 1 0 1\n800\n2 0\n400 0 0\n");
        for (int v : new int[] {2, 3, 199, 201, 398, 399}) {
            checks.same("variable " + v, x.call().value(2 * v, -1), NONE);
            checks.same("not variable " + v, x.call().value(2 * v + 1, -1), NONE);
        }
        checks.same("input", x.call().value(800, 1), 1);
        checks.same("latch", x.call().value(3, 0), 1);
        checks.same("and", x.call().value(401, 0), 1);
        for (int times = 0; times < 3; times++) {
            x.read("aag 400 0 0 0 0\n");
            for (int v : new int[] {1, 200, 400}) {
                checks.same("of a circuit before", x.call().value(2 * v, -1), NONE);
            }
        }
    }

    private static void stepOutputs() {
        checks.sentence("The outputs as bits (output 0 the lowest)");
        Bench x = new Bench();
        checks.same("none", x.call().step(-1), 0);
        for (int one = 0; one < 8; one++) {
            x.read("aig 0 0 0 8 0\n" + "0\n".repeat(one) + "1\n" + "0\n".repeat(7 - one));
            checks.same("output " + one, x.call().step(0), 1 << one);
        }
        x.read("aig 0 0 0 8 0\n" + "1\n".repeat(8));
        checks.same("all eight", x.call().step(0), 255);
        Bench most = new Bench();
        most.read(Samples.chainFromItsEnd(300));
        checks.same("300 ands", most.call().step(1), 1);
        checks.same("300 ands", most.call().step(0), 0);
    }

    private static void stepInputs() {
        checks.sentence("with the latches as they are and input k as bit k of x");
        Bench x = new Bench();
        x.read("aag 6 6 0 6 0\n12\n10\n8\n6\n4\n2\n12\n10\n8\n6\n4\n2\n");
        for (int bits : new int[] {0, 1, 32, 33, 63, 64, 127, -1, -64, LEAST, MOST}) {
            checks.same("step(" + bits + ")", x.call().step(bits), bits & 63);
        }
        x.read("aag 1 0 1 1 0\n2 3\n2\n");
        for (int i = 0; i < 6; i++) {
            checks.same("the latch before it changes", x.call().step(-1), i % 2);
        }
    }

    private static void stepLatches() {
        checks.sentence("then each latch becomes its next");
        Bench x = new Bench();
        // A ring of seven: each takes the old bit of the one before, the first one an input's.
        x.read("aag 8 1 7 1 0\n2\n4 2\n6 4\n8 6\n10 8\n12 10\n14 12\n16 14\n16\n");
        checks.same("a 1 goes in", x.call().step(1), 0);
        for (int i = 0; i < 7; i++) {
            checks.same("it goes through", x.call().state(), 1 << i);
            checks.same("it goes out at last", x.call().step(0), i == 6 ? 1 : 0);
        }
        checks.same("it is gone", x.call().state(), 0);
        Bench counter = new Bench();
        counter.read(Samples.counter());
        for (int i = 0; i < 127; i++) {
            counter.call().step(0);
        }
        checks.same("the greatest state", counter.call().state(), 127);
        checks.same("the greatest state", counter.call().step(0), 127);
        checks.same("from the start again", counter.call().state(), 0);
    }
}
