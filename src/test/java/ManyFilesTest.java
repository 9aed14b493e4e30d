import java.util.Map;
import java.util.Random;
import java.util.TreeMap;

/** Files made by a fixed seed, sound ones and damaged ones, compared with the Oracle. */
public final class ManyFilesTest {
    private static final int FILES = 12000;
    private static final Checks checks = new Checks();
    private static final Map<String, Integer> met = new TreeMap<>();

    private final Random random = new Random(20261115);
    private final FileMaker maker = new FileMaker(random);

    private ManyFilesTest() {
    }

    public static void main(String[] args) {
        ManyFilesTest test = new ManyFilesTest();
        for (int i = 0; i < FILES; i++) {
            int size = i % 200 == 0 ? 300 : i % 20 == 0 ? 60 : 8;
            String file = test.maker.next(size);
            if (file.length() <= 3800) {
                test.compare(file);
            }
        }
        for (String kind : new String[] {"sound", "fault 1", "fault 2", "fault 3", "fault 4", "fault 5", "fault 6"}) {
            checks.same("files enough with " + kind, met.getOrDefault(kind, 0) >= 100 ? 1 : 0, 1);
        }
        System.out.println(met);
        checks.finish();
    }

    private void compare(String file) {
        String shown = Checks.shown(file);
        Bench x = new Bench();
        String answer = x.read(file);
        try {
            Oracle oracle = new Oracle(file);
            met.merge("sound", 1, Integer::sum);
            checks.same(shown, answer, "ands " + oracle.andCount());
            for (int what = 0; what < 5; what++) {
                checks.same(shown + " many " + what, x.call().many(what), oracle.head[what]);
            }
            compareRun(shown, x, oracle);
            compareForms(file, oracle);
        } catch (Oracle.Fault fault) {
            met.merge("fault " + fault.kind, 1, Integer::sum);
            checks.same(shown, answer, "fault " + fault.kind + " at " + fault.place);
        }
    }

    private void compareRun(String shown, Bench x, Oracle oracle) {
        for (int i = 0; i < 10; i++) {
            int bits = random.nextInt();
            int literal = random.nextInt(2 * oracle.head[0] + 4) - 1;
            checks.same(shown + " value " + literal, x.call().value(literal, bits), oracle.value(literal, bits));
            checks.same(shown + " step " + bits, x.call().step(bits), oracle.step(bits));
            checks.same(shown + " state", x.call().state(), oracle.state);
        }
    }

    private void compareForms(String file, Oracle oracle) throws Oracle.Fault {
        String shown = Checks.shown(file);
        String text = oracle.text();
        String binary = oracle.binary();
        checks.same(shown + " text", Bench.longForm(file, false), text);
        checks.same(shown + " binary", Bench.longForm(file, true), binary);
        if (file.length() < 300) {
            checks.same(shown + " text again", Bench.longForm(text, false), text);
            checks.same(shown + " binary again", Bench.longForm(binary, true), binary);
            Bench named = new Bench();
            named.put(file);
            named.load();
            for (int k = 0; k < 8; k++) {
                int kind = random.nextInt(3);
                checks.same(shown + " name " + kind + " " + k, named.name(kind, k), oracle.name(kind, k));
            }
        }
    }
}
