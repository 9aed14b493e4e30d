import java.util.ArrayList;
import java.util.Collections;
import java.util.List;
import java.util.Map;
import java.util.Random;
import java.util.TreeMap;

/** Files made by a fixed seed, sound ones and damaged ones, compared with the Oracle. */
public final class ManyFilesTest {
    private static final int FILES = 12000;
    private static final Checks checks = new Checks();
    private static final Map<String, Integer> met = new TreeMap<>();

    private final Random random = new Random(20261115);

    private ManyFilesTest() {
    }

    public static void main(String[] args) {
        ManyFilesTest test = new ManyFilesTest();
        for (int i = 0; i < FILES; i++) {
            int size = i % 200 == 0 ? 300 : i % 20 == 0 ? 60 : 8;
            String file = test.random.nextInt(3) == 0 ? test.binaryFile(size) : test.textFile(size);
            for (int damages = test.random.nextInt(3); damages > 0; damages--) {
                file = test.damaged(file);
            }
            if (file.length() <= 3800) {
                test.compare(file);
            }
        }
        for (String kind : new String[] {"sound", "fault 1", "fault 2", "fault 3", "fault 4", "fault 5", "fault 6"}) {
            checks.same("files enough with " + kind, met.getOrDefault(kind, 0) >= 100 ? 1 : 0, 1);
        }
        System.out.println(met);
        checks.finish();
    }

    private void compare(String file) {
        String shown = Checks.shown(file);
        Bench x = new Bench();
        String answer = x.read(file);
        try {
            Oracle oracle = new Oracle(file);
            met.merge("sound", 1, Integer::sum);
            checks.same(shown, answer, "ands " + oracle.andCount());
            for (int what = 0; what < 5; what++) {
                checks.same(shown + " many " + what, x.call().many(what), oracle.head[what]);
            }
            compareRun(shown, x, oracle);
            compareForms(file, oracle);
        } catch (Oracle.Fault fault) {
            met.merge("fault " + fault.kind, 1, Integer::sum);
            checks.same(shown, answer, "fault " + fault.kind + " at " + fault.place);
        }
    }

    private void compareRun(String shown, Bench x, Oracle oracle) {
        for (int i = 0; i < 10; i++) {
            int bits = random.nextInt();
            int literal = random.nextInt(2 * oracle.head[0] + 4) - 1;
            checks.same(shown + " value " + literal, x.call().value(literal, bits), oracle.value(literal, bits));
            checks.same(shown + " step " + bits, x.call().step(bits), oracle.step(bits));
            checks.same(shown + " state", x.call().state(), oracle.state);
        }
    }

    private void compareForms(String file, Oracle oracle) throws Oracle.Fault {
        String shown = Checks.shown(file);
        String text = oracle.text();
        String binary = oracle.binary();
        checks.same(shown + " text", Bench.longForm(file, false), text);
        checks.same(shown + " binary", Bench.longForm(file, true), binary);
        if (file.length() < 300) {
            checks.same(shown + " text again", Bench.longForm(text, false), text);
            checks.same(shown + " binary again", Bench.longForm(binary, true), binary);
            Bench named = new Bench();
            named.put(file);
            named.load();
            for (int k = 0; k < 8; k++) {
                int kind = random.nextInt(3);
                checks.same(shown + " name " + kind + " " + k, named.name(kind, k), oracle.name(kind, k));
            }
        }
    }

    private String textFile(int size) {
        int inputs = random.nextInt(7);
        int latches = random.nextInt(8);
        int outputs = random.nextInt(9);
        int ands = random.nextInt(size + 1);
        int spare = random.nextInt(3) * random.nextInt(4);
        int top = inputs + latches + ands + spare;
        List<Integer> variables = new ArrayList<>();
        for (int v = 1; v <= top; v++) {
            variables.add(v);
        }
        Collections.shuffle(variables, random);
        int defined = inputs + latches + ands;
        StringBuilder out = new StringBuilder("aag " + top + " " + inputs + " " + latches + " " + outputs + " " + ands + "\n");
        int at = 0;
        for (int k = 0; k < inputs; k++) {
            out.append(2 * variables.get(at++)).append('\n');
        }
        for (int k = 0; k < latches; k++) {
            out.append(2 * variables.get(at++)).append(' ').append(use(variables, defined)).append('\n');
        }
        for (int k = 0; k < outputs; k++) {
            out.append(use(variables, defined)).append('\n');
        }
        List<String> lines = new ArrayList<>();
        boolean loose = random.nextInt(4) == 0;
        for (int i = 0; i < ands; i++) {
            int known = loose && random.nextInt(8) == 0 ? defined : at;
            lines.add(2 * variables.get(at++) + " " + use(variables, known) + " " + use(variables, known) + "\n");
        }
        if (random.nextBoolean()) {
            Collections.shuffle(lines, random);
        }
        lines.forEach(out::append);
        return out + ending(inputs, latches, outputs);
    }

    /** A literal of one of the first variables, rarely of any. */
    private int use(List<Integer> variables, int known) {
        int from = random.nextInt(60) == 0 ? variables.size() : known;
        int place = random.nextInt(from + 1);
        int variable = place == from ? 0 : variables.get(place);
        return 2 * variable + random.nextInt(2);
    }

    private String binaryFile(int size) {
        int inputs = random.nextInt(7);
        int latches = random.nextInt(8);
        int outputs = random.nextInt(9);
        int ands = random.nextInt(size + 1);
        int top = inputs + latches + ands;
        StringBuilder out = new StringBuilder("aig " + top + " " + inputs + " " + latches + " " + outputs + " " + ands + "\n");
        for (int k = 0; k < latches + outputs; k++) {
            out.append(random.nextInt(2 * top + 2)).append('\n');
        }
        for (int v = inputs + latches + 1; v <= top; v++) {
            int first = random.nextInt(2 * v);
            int second = random.nextInt(first + 1);
            delta(out, 2 * v - first);
            delta(out, first - second);
        }
        return out + ending(inputs, latches, outputs);
    }

    private void delta(StringBuilder out, int delta) {
        int bytes = delta >= 128 ? 2 : 1;
        bytes += random.nextInt(20) == 0 ? 1 : 0;
        for (int i = 0; i < bytes; i++) {
            out.append((char) (delta >> 7 * i & 127 | (i + 1 < bytes ? 128 : 0)));
        }
    }

    private String ending(int inputs, int latches, int outputs) {
        List<String> lines = new ArrayList<>();
        int[] counts = {inputs, latches, outputs};
        for (int kind = 0; kind < 3; kind++) {
            for (int k = 0; k < counts[kind]; k++) {
                if (random.nextInt(6) == 0) {
                    lines.add("ilo".charAt(kind) + "" + k + " " + name() + "\n");
                }
            }
        }
        Collections.shuffle(lines, random);
        return String.join("", lines) + (random.nextInt(4) == 0 ? "c\n" + name() : "");
    }

    private String name() {
        StringBuilder out = new StringBuilder();
        int length = random.nextInt(5) == 0 ? 39 + random.nextInt(2) : 1 + random.nextInt(6);
        while (out.length() < length) {
            char b = (char) random.nextInt(256);
            out.append(b == '\n' ? 'c' : b);
        }
        return out.toString();
    }

    private String damaged(String file) {
        if (file.isEmpty()) {
            return file;
        }
        int at = random.nextInt(random.nextInt(3) == 0 ? Math.min(18, file.length()) : file.length());
        String common = "0123456789  \n\nailoc";
        char b = random.nextInt(5) == 0 ? (char) random.nextInt(256) : common.charAt(random.nextInt(common.length()));
        switch (random.nextInt(6)) {
            case 0: return file.substring(0, at);
            case 1: return file.substring(0, at) + file.substring(at + 1);
            case 2: return file.substring(0, at) + b + file.substring(at);
            case 3: return file + "ilo".charAt(random.nextInt(3)) + random.nextInt(10) + " " + b + "\n";
            default: return file.substring(0, at) + b + file.substring(at + 1);
        }
    }
}
