import java.util.Random;

/**
 * Runs of 512 calls in any order with any arguments, from a fixed seed: each answer is compared with a
 * model that holds the tape as a text and the circuit as an Oracle.
 */
public final class AnyCallsTest {
    private static final int RUNS = 1500;
    private static final int NONE = CircuitFiles.NONE;
    private static final int[] ODD = {-1, -2, 20, 21, 401, 802, 6000, 1 << 16, Integer.MIN_VALUE, Integer.MAX_VALUE};
    private static final Checks checks = new Checks();
    private static final Random random = new Random(20261116);
    private static final FileMaker maker = new FileMaker(random);
    private static int sound = 0;
    private static int refused = 0;

    private final Bench bench = new Bench();
    private final StringBuilder tape = new StringBuilder();
    private String ready = "\0".repeat(20);
    private Oracle circuit = new Oracle("aag 0 0 0 0 0\n");
    private String text = circuit.text();
    private String binary = circuit.binary();
    private int fault = 0;
    private int place = NONE;
    private String coming = "";

    private AnyCallsTest() throws Oracle.Fault {
    }

    public static void main(String[] args) throws Oracle.Fault {
        for (int run = 0; run < RUNS; run++) {
            AnyCallsTest test = new AnyCallsTest();
            test.coming = maker.next(8);
            while (test.bench.callsLeft() > 0) {
                test.callSomething();
            }
        }
        checks.same("files enough that are sound", sound >= RUNS ? 1 : 0, 1);
        checks.same("files enough with a fault", refused >= RUNS ? 1 : 0, 1);
        checks.finish();
    }

    /** Mostly a number below the bound, else an odd one. */
    private static int some(int bound) {
        return random.nextInt(8) > 0 ? random.nextInt(bound) : ODD[random.nextInt(ODD.length)];
    }

    private void callSomething() {
        switch (random.nextInt(16)) {
            case 0: feed(); break;
            case 1: case 2: case 3: case 4: case 5: send(); break;
            case 6: end(random.nextInt(8) == 0 ? some(21) : ODD[random.nextInt(2)]); break;
            case 7: load(); break;
            case 8: fault(some(2)); break;
            case 9: many(some(5)); break;
            case 10: symbol(some(3), some(8), some(6)); break;
            case 11: form(random.nextBoolean()); break;
            case 12: resetOrState(); break;
            case 13: value(some(2 * circuit.head[0] + 4), random.nextInt()); break;
            default: step(random.nextInt()); break;
        }
    }

    private void send() {
        feed();
        if (bench.callsLeft() > 0 && random.nextInt(8) > 0) {
            end(Math.min(20, coming.length()));
        }
    }

    private void feed() {
        ready = (coming + "\0".repeat(20)).substring(0, 20);
        bench.call().feed(Bench.word(ready, 0), Bench.word(ready, 4), Bench.word(ready, 8), Bench.word(ready, 12),
            Bench.word(ready, 16));
    }

    private void end(int n) {
        int due = n < 0 || n > 20 || tape.length() + n > 6000 ? NONE : tape.length() + n;
        if (due != NONE) {
            tape.append(ready, 0, n);
            // Where zeros come in the file's place, it is one more damaged file.
            coming = coming.substring(Math.min(n, coming.length()));
            ready = "\0".repeat(20);
        }
        checks.same("end(" + n + ")", bench.call().end(n), due);
    }

    /** Mostly waits for the file's end. */
    private void load() {
        if (!coming.isEmpty() && random.nextInt(10) > 0) {
            return;
        }
        String file = tape.toString();
        tape.setLength(0);
        coming = maker.next(8);
        String due;
        try {
            circuit = new Oracle(file);
            text = circuit.text();
            binary = circuit.binary();
            fault = 0;
            place = NONE;
            due = "ands " + circuit.andCount();
            sound++;
        } catch (Oracle.Fault told) {
            fault = told.kind;
            place = told.place;
            due = "throws";
            refused++;
        }
        checks.same("load() of " + Checks.shown(file), bench.load(), due);
    }

    private void fault(int what) {
        checks.same("fault(" + what + ")", bench.call().fault(what), what == 0 ? fault : what == 1 ? place : NONE);
    }

    private void many(int what) {
        int due = what < 0 || what > 4 ? NONE : circuit.head[what];
        checks.same("many(" + what + ")", bench.call().many(what), due);
    }

    private void symbol(int kind, int k, int i) {
        String name = kind < 0 || kind > 2 ? "" : circuit.name(kind, k);
        checks.same("symbol(" + kind + ", " + k + ", " + i + ")", bench.call().symbol(kind, k, i), byteOf(name, i));
    }

    private void form(boolean asBinary) {
        String whole = asBinary ? binary : text;
        int i = some(whole.length() + 3);
        checks.same("form(" + asBinary + ", " + i + ")", bench.call().form(asBinary, i), byteOf(whole, i));
    }

    private static int byteOf(String bytes, int i) {
        return i < 0 || i >= bytes.length() ? NONE : bytes.charAt(i);
    }

    private void resetOrState() {
        if (random.nextInt(6) == 0) {
            circuit.state = 0;
            bench.call().reset();
        } else {
            checks.same("state()", bench.call().state(), circuit.state);
        }
    }

    private void value(int literal, int x) {
        checks.same("value(" + literal + ")", bench.call().value(literal, x), circuit.value(literal, x));
    }

    private void step(int x) {
        checks.same("step(" + x + ")", bench.call().step(x), circuit.step(x));
    }
}
