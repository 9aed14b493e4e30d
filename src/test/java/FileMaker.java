import java.util.ArrayList;
import java.util.Collections;
import java.util.List;
import java.util.Random;

/** Makes files of both forms, sound ones and damaged ones. */
final class FileMaker {
    private final Random random;

    FileMaker(Random random) {
        this.random = random;
    }

    /** A file with at most so many ands, and up to two damages. */
    String next(int mostAnds) {
        String file = random.nextInt(3) == 0 ? binaryFile(mostAnds) : textFile(mostAnds);
        for (int damages = random.nextInt(3); damages > 0; damages--) {
            file = damaged(file);
        }
        return file;
    }

    private String textFile(int size) {
        int inputs = random.nextInt(7);
        int latches = random.nextInt(8);
        int outputs = random.nextInt(9);
        int ands = random.nextInt(size + 1);
        int spare = random.nextInt(3) * random.nextInt(4);
        int top = inputs + latches + ands + spare;
        List<Integer> variables = new ArrayList<>();
        for (int v = 1; v <= top; v++) {
            variables.add(v);
        }
        Collections.shuffle(variables, random);
        int defined = inputs + latches + ands;
        StringBuilder out = new StringBuilder("aag " + top + firstLinesRest(inputs, latches, outputs, ands));
        int at = 0;
        for (int k = 0; k < inputs; k++) {
            out.append(2 * variables.get(at++)).append('\n');
        }
        for (int k = 0; k < latches; k++) {
            out.append(2 * variables.get(at++)).append(' ').append(use(variables, defined)).append('\n');
        }
        for (int k = 0; k < outputs; k++) {
            out.append(use(variables, defined)).append('\n');
        }
        List<String> lines = new ArrayList<>();
        boolean loose = random.nextInt(4) == 0;
        for (int i = 0; i < ands; i++) {
            int known = loose && random.nextInt(8) == 0 ? defined : at;
            lines.add(2 * variables.get(at++) + " " + use(variables, known) + " " + use(variables, known) + "\n");
        }
        if (random.nextBoolean()) {
            Collections.shuffle(lines, random);
        }
        lines.forEach(out::append);
        return out + ending(inputs, latches, outputs);
    }

    private static String firstLinesRest(int inputs, int latches, int outputs, int ands) {
        return " " + inputs + " " + latches + " " + outputs + " " + ands + "\n";
    }

    /** A literal of one of the first variables, rarely of any. */
    private int use(List<Integer> variables, int known) {
        int from = random.nextInt(60) == 0 ? variables.size() : known;
        int place = random.nextInt(from + 1);
        int variable = place == from ? 0 : variables.get(place);
        return 2 * variable + random.nextInt(2);
    }

    private String binaryFile(int size) {
        int inputs = random.nextInt(7);
        int latches = random.nextInt(8);
        int outputs = random.nextInt(9);
        int ands = random.nextInt(size + 1);
        int top = inputs + latches + ands;
        StringBuilder out = new StringBuilder("aig " + top + firstLinesRest(inputs, latches, outputs, ands));
        for (int k = 0; k < latches + outputs; k++) {
            out.append(random.nextInt(2 * top + 2)).append('\n');
        }
        for (int v = inputs + latches + 1; v <= top; v++) {
            int first = random.nextInt(2 * v);
            int second = random.nextInt(first + 1);
            delta(out, 2 * v - first);
            delta(out, first - second);
        }
        return out + ending(inputs, latches, outputs);
    }

    private void delta(StringBuilder out, int delta) {
        int bytes = delta >= 128 ? 2 : 1;
        bytes += random.nextInt(20) == 0 ? 1 : 0;
        for (int i = 0; i < bytes; i++) {
            out.append((char) (delta >> 7 * i & 127 | (i + 1 < bytes ? 128 : 0)));
        }
    }

    private String ending(int inputs, int latches, int outputs) {
        List<String> lines = new ArrayList<>();
        int[] counts = {inputs, latches, outputs};
        for (int kind = 0; kind < 3; kind++) {
            for (int k = 0; k < counts[kind]; k++) {
                if (random.nextInt(6) == 0) {
                    lines.add("ilo".charAt(kind) + "" + k + " " + name() + "\n");
                }
            }
        }
        Collections.shuffle(lines, random);
        return String.join("", lines) + (random.nextInt(4) == 0 ? "c\n" + name() : "");
    }

    private String name() {
        StringBuilder out = new StringBuilder();
        int length = random.nextInt(5) == 0 ? 39 + random.nextInt(2) : 1 + random.nextInt(6);
        while (out.length() < length) {
            char b = (char) random.nextInt(256);
            out.append(b == '\n' ? 'c' : b);
        }
        return out.toString();
    }

    private String damaged(String file) {
        if (file.isEmpty()) {
            return file;
        }
        int at = random.nextInt(random.nextInt(3) == 0 ? Math.min(18, file.length()) : file.length());
        String common = "0123456789  \n\nailoc";
        char b = random.nextInt(5) == 0 ? (char) random.nextInt(256) : common.charAt(random.nextInt(common.length()));
        switch (random.nextInt(6)) {
            case 0: return file.substring(0, at);
            case 1: return file.substring(0, at) + file.substring(at + 1);
            case 2: return file.substring(0, at) + b + file.substring(at);
            case 3: return file + "ilo".charAt(random.nextInt(3)) + random.nextInt(10) + " " + b + "\n";
            default: return file.substring(0, at) + b + file.substring(at + 1);
        }
    }
}
