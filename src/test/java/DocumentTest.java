import java.util.Random;

/** What the document says outside the sentences of EdgesTest, TermsTest and FaultsTest. */
public final class DocumentTest {
    private static final Checks checks = new Checks();
    private static final String[] FILES = {
        "aag 7 2 1 2 4\n2\n4\n6 8\n6\n7\n8 4 10\n10 13 15\n12 2 6\n14 3 7\ni0 enable\ni1 reset\no0 Q\no1 not Q\n",
        Samples.TEXT, Samples.BINARY, Samples.counter(), "aag 0 0 0 2 0\n1\n0\n", "aig 7 0 7 0 0\n" + "15\n".repeat(7)};

    private DocumentTest() {
    }

    public static void main(String[] args) {
        writtenAndReadAgain();
        madeFilesReadAgain();
        callsBehindThe512th();
        latch();
        and();
        output();
        countsOfTheFirstLine();
        objectsByThemselves();
        checks.finish();
    }

    private static void writtenAndReadAgain() {
        checks.sentence("read with their first fault told by its place, written in either form, and run");
        for (String file : FILES) {
            sameRuns(file, new Random(1));
        }
    }

    private static void madeFilesReadAgain() {
        checks.sentence("written in either form, and run");
        Random random = new Random(20261117);
        FileMaker maker = new FileMaker(random);
        int sound = 0;
        for (int i = 0; i < 600; i++) {
            String file = maker.next(20);
            if (new Bench().read(file).startsWith("ands")) {
                sound++;
                sameRuns(file, random);
            }
        }
        checks.same("files enough that are sound", sound > 150 ? 1 : 0, 1);
    }

    /** Both written forms are sound files, tell the same names, and run as the file does. */
    private static void sameRuns(String file, Random random) {
        String shown = Checks.shown(file);
        String text = Bench.longForm(file, false);
        String binary = Bench.longForm(file, true);
        checks.same("the binary form of the text of " + shown, Bench.longForm(text, true), binary);
        Bench[] all = {new Bench(), new Bench(), new Bench()};
        String due = all[0].read(file);
        checks.same("the text of " + shown, all[1].read(text), due);
        checks.same("the binary form of " + shown, all[2].read(binary), due);
        for (int i = 0; i < 20; i++) {
            int x = random.nextInt();
            int outputs = all[0].call().step(x);
            int state = all[0].call().state();
            for (Bench other : new Bench[] {all[1], all[2]}) {
                checks.same("outputs of " + shown, other.call().step(x), outputs);
                checks.same("latches of " + shown, other.call().state(), state);
            }
        }
        for (int kind = 0; kind < 3; kind++) {
            int k = random.nextInt(6);
            String name = all[0].name(kind, k);
            checks.same("name of " + shown, all[1].name(kind, k), name);
            checks.same("name of " + shown, all[2].name(kind, k), name);
        }
    }

    /** Their answers are free; that none of them throws but load() is a rule of the language. */
    private static void callsBehindThe512th() {
        checks.sentence("what later calls answer is free");
        CircuitFiles x = new CircuitFiles();
        int thrown = 0;
        for (int i = 0; i < 3000; i++) {
            x.feed(i, -i, i * i, i << 24, ~i);
            x.end(i % 24 - 2);
            x.step(i + x.fault(i % 3) + x.many(i % 7) + x.symbol(i % 4, i % 9, i % 50));
            x.value(i - 9, x.form(i % 2 == 0, i - 9) + x.state());
            x.reset();
            if (i % 400 == 399) {
                try {
                    x.load();
                } catch (IllegalArgumentException e) {
                    thrown++;
                }
            }
        }
        checks.same("loads that are refused", thrown, 7);
    }

    private static void latch() {
        checks.sentence("A latch has a NEXT literal");
        for (int next = 0; next <= 7; next++) {
            Bench x = new Bench();
            checks.same("load()", x.read("aag 3 1 1 1 1\n2\n4 " + next + "\n4\n6 2 2\n"), "ands 1");
            for (int i = 0; i < 8; i++) {
                int due = x.call().value(next, i);
                x.call().step(i);
                checks.same("next " + next, x.call().state(), due);
            }
        }
    }

    private static void and() {
        checks.sentence("an and two operands");
        for (int first = 0; first <= 5; first++) {
            for (int second = 0; second <= 5; second++) {
                Bench x = new Bench();
                checks.same("load()", x.read("aag 3 2 0 1 1\n2\n4\n6\n6 " + first + " " + second + "\n"), "ands 1");
                for (int bits = 0; bits < 4; bits++) {
                    int due = bitOf(first, bits) & bitOf(second, bits);
                    checks.same("and of " + first + ", " + second, x.call().value(6, bits), due);
                    checks.same("and of " + first + ", " + second, x.call().value(7, bits), 1 - due);
                    checks.same("and of " + first + ", " + second, x.call().step(bits), due);
                }
            }
        }
    }

    /** Of a literal of the constants and two inputs. */
    private static int bitOf(int literal, int bits) {
        int[] variables = {0, bits & 1, bits >> 1};
        return literal % 2 == 0 ? variables[literal / 2] : 1 - variables[literal / 2];
    }

    private static void output() {
        checks.sentence("an OUTPUT is a literal");
        Bench x = new Bench();
        checks.same("load()", x.read("aag 3 2 0 6 0\n2\n4\n0\n1\n2\n3\n4\n5\n"), "ands 0");
        for (int bits = 0; bits < 4; bits++) {
            int due = 0;
            for (int literal = 0; literal <= 5; literal++) {
                due |= bitOf(literal, bits) << literal;
            }
            checks.same("outputs", x.call().step(bits), due);
        }
    }

    private static void countsOfTheFirstLine() {
        checks.sentence("M, and how many inputs, latches, outputs, ands");
        String[] files = {"aag 15 1 2 3 4\n2\n4 0\n6 0\n0\n0\n0\n8 0 0\n10 0 0\n12 0 0\n14 0 0\n",
            "aig 7 1 2 3 4\n0\n0\n0\n0\n0\n" + "\1\0".repeat(4)};
        for (String file : files) {
            Bench x = new Bench();
            checks.same("load()", x.read(file), "ands 4");
            checks.same("M", x.call().many(0), file.charAt(1) == 'a' ? 15 : 7);
            for (int what = 1; what <= 4; what++) {
                checks.same("many(" + what + ")", x.call().many(what), what);
            }
        }
    }

    private static void objectsByThemselves() {
        checks.sentence("A new object");
        Bench one = new Bench();
        Bench other = new Bench();
        one.put("aag 1 0 1 1 0\n");
        other.put("aig 2 1 0 1 1\n5\n");
        one.put("2 1\n2\nl0 on\n");
        other.put("\2\0i0 in\n");
        checks.same("one", one.load(), "ands 0");
        checks.same("the other", other.load(), "ands 1");
        checks.same("one", one.call().step(1), 0);
        checks.same("the other", other.call().step(1), 0);
        checks.same("one", one.call().state(), 1);
        checks.same("the other", other.call().state(), 0);
        checks.same("the other", other.read("x"), "fault 1 at 0");
        checks.same("one", one.call().fault(0), 0);
        checks.same("one", one.form(false) + one.name(1, 0), "aag 1 0 1 1 0\n2 1\n2\nl0 on\non");
        checks.same("the other", other.form(true) + other.name(0, 0), "aig 2 1 0 1 1\n5\n\2\0i0 in\nin");
        checks.same("a third one", new Bench().form(false), "aag 0 0 0 0 0\n");
    }
}
