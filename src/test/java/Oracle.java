import java.util.ArrayList;
import java.util.HashMap;
import java.util.List;
import java.util.Map;

/**
 * The document read a second time, with the library and without care for speed, so that the class can
 * be compared with it on files that nobody thought of.
 */
final class Oracle {
    static final class Fault extends Exception {
        private static final long serialVersionUID = 1;
        final int kind;
        final int place;

        Fault(int kind, int place) {
            this.kind = kind;
            this.place = place;
        }
    }

    private final String file;
    private int at = 0;
    private final Map<Integer, int[]> andOf = new HashMap<>();
    private final Map<Integer, Integer> inputOf = new HashMap<>();
    private final Map<Integer, Integer> latchOf = new HashMap<>();
    private final List<int[]> uses = new ArrayList<>();
    private final List<Integer> ands = new ArrayList<>();
    private final List<Integer> inputs = new ArrayList<>();
    private final List<Integer> latches = new ArrayList<>();
    private final List<Integer> nexts = new ArrayList<>();
    private final List<Integer> outputs = new ArrayList<>();
    private final Map<String, String> names = new HashMap<>();
    int[] head;
    int state = 0;

    Oracle(String file) throws Fault {
        this.file = file;
        boolean binary = header();
        if (binary) {
            binaryBody();
        } else {
            textBody();
        }
        symbols();
        for (int[] use : uses) {
            if (use[0] > 1 && !isDefined(use[0] / 2)) {
                throw new Fault(5, use[1]);
            }
        }
        for (int v = 1; v <= head[0]; v++) {
            if (comesToItself(v)) {
                throw new Fault(6, v);
            }
        }
    }

    private boolean isDefined(int variable) {
        return andOf.containsKey(variable) || inputOf.containsKey(variable) || latchOf.containsKey(variable);
    }

    private char next() throws Fault {
        if (at >= file.length()) {
            throw new Fault(1, file.length());
        }
        return file.charAt(at);
    }

    private void must(String allowed) throws Fault {
        if (allowed.indexOf(next()) < 0) {
            throw new Fault(1, at);
        }
        at++;
    }

    private int number() throws Fault {
        int from = at;
        must("0123456789");
        while (at < file.length() && Character.digit(file.charAt(at), 10) >= 0 && file.charAt(at) < 128) {
            if (at - from == 4 || file.charAt(from) == '0') {
                throw new Fault(1, at);
            }
            at++;
        }
        return Integer.parseInt(file.substring(from, at));
    }

    private boolean header() throws Fault {
        must("a");
        must("ai");
        must("g");
        head = new int[5];
        for (int i = 0; i < 5; i++) {
            must(" ");
            head[i] = number();
        }
        must("\n");
        boolean binary = file.charAt(1) == 'i';
        int sum = head[1] + head[2] + head[4];
        if (head[0] > 400 || head[1] > 6 || head[2] > 7 || head[3] > 8 || head[4] > 300 || head[0] < sum
            || binary && head[0] != sum) {
            throw new Fault(2, at);
        }
        return binary;
    }

    private int literal() throws Fault {
        int from = at;
        int literal = number();
        if (literal > 2 * head[0] + 1) {
            throw new Fault(3, from);
        }
        return literal;
    }

    private int definition() throws Fault {
        int from = at;
        int literal = literal();
        if (literal < 2 || literal % 2 == 1 || isDefined(literal / 2)) {
            throw new Fault(4, from);
        }
        return literal / 2;
    }

    private int use() throws Fault {
        int from = at;
        int literal = literal();
        uses.add(new int[] {literal, from});
        return literal;
    }

    private void textBody() throws Fault {
        for (int k = 0; k < head[1]; k++) {
            addInput(definition());
            must("\n");
        }
        for (int k = 0; k < head[2]; k++) {
            addLatch(definition());
            must(" ");
            nexts.add(use());
            must("\n");
        }
        outputLines();
        for (int i = 0; i < head[4]; i++) {
            int v = definition();
            int[] operands = addAnd(v);
            must(" ");
            operands[0] = use();
            must(" ");
            operands[1] = use();
            must("\n");
        }
    }

    private void binaryBody() throws Fault {
        int v = 0;
        for (int k = 0; k < head[1]; k++) {
            addInput(++v);
        }
        for (int k = 0; k < head[2]; k++) {
            addLatch(++v);
        }
        for (int k = 0; k < head[2]; k++) {
            nexts.add(use());
            must("\n");
        }
        outputLines();
        for (int i = 0; i < head[4]; i++) {
            int[] operands = addAnd(++v);
            operands[0] = lessDelta(2 * v, false);
            operands[1] = lessDelta(operands[0], true);
        }
    }

    private void outputLines() throws Fault {
        for (int k = 0; k < head[3]; k++) {
            outputs.add(use());
            must("\n");
        }
    }

    private int lessDelta(int from, boolean zeroIsFine) throws Fault {
        int place = at;
        int delta = 0;
        int unit = 1;
        boolean more = true;
        while (more) {
            if (at == place + 3) {
                throw new Fault(1, at);
            }
            int b = next();
            at++;
            more = b >= 128;
            delta += b % 128 * unit;
            unit *= 128;
        }
        if (delta > from || delta == 0 && !zeroIsFine) {
            throw new Fault(3, place);
        }
        uses.add(new int[] {from - delta, place});
        return from - delta;
    }

    private void addInput(int v) {
        inputOf.put(v, inputs.size());
        inputs.add(v);
    }

    private void addLatch(int v) {
        latchOf.put(v, latches.size());
        latches.add(v);
    }

    private int[] addAnd(int v) {
        ands.add(v);
        andOf.put(v, new int[2]);
        return andOf.get(v);
    }

    private void symbols() throws Fault {
        while (at < file.length()) {
            if (file.charAt(at) == 'c') {
                at++;
                must("\n");
                return;
            }
            char kind = file.charAt(at);
            must("ilo");
            int k = number();
            int there = kind == 'i' ? head[1] : kind == 'l' ? head[2] : head[3];
            String key = kind + "" + k;
            if (k >= there || names.containsKey(key)) {
                throw new Fault(1, at);
            }
            must(" ");
            StringBuilder name = new StringBuilder();
            while (next() != '\n') {
                if (name.length() == 40) {
                    throw new Fault(1, at);
                }
                name.append(next());
                at++;
            }
            if (name.length() == 0) {
                throw new Fault(1, at);
            }
            at++;
            names.put(key, name.toString());
        }
    }

    private boolean comesToItself(int v) {
        boolean[] seen = new boolean[head[0] + 1];
        List<Integer> todo = new ArrayList<>(List.of(v));
        for (int i = 0; i < todo.size(); i++) {
            int[] operands = andOf.get(todo.get(i));
            for (int j = 0; operands != null && j < 2; j++) {
                if (!seen[operands[j] / 2]) {
                    seen[operands[j] / 2] = true;
                    todo.add(operands[j] / 2);
                }
            }
        }
        return seen[v];
    }

    int andCount() {
        return ands.size();
    }

    String name(int kind, int k) {
        return names.getOrDefault("ilo".charAt(kind) + "" + k, "");
    }

    private String symbolLines() {
        StringBuilder out = new StringBuilder();
        for (int kind = 0; kind < 3; kind++) {
            for (int k = 0; k < 8; k++) {
                String name = name(kind, k);
                if (!name.isEmpty()) {
                    out.append("ilo".charAt(kind)).append(k).append(' ').append(name).append('\n');
                }
            }
        }
        return out.toString();
    }

    String text() {
        StringBuilder out = new StringBuilder("aag");
        for (int count : head) {
            out.append(' ').append(count);
        }
        out.append('\n');
        inputs.forEach(v -> out.append(2 * v).append('\n'));
        for (int k = 0; k < latches.size(); k++) {
            out.append(2 * latches.get(k)).append(' ').append(nexts.get(k)).append('\n');
        }
        outputs.forEach(literal -> out.append(literal).append('\n'));
        for (int v : ands) {
            out.append(2 * v).append(' ').append(andOf.get(v)[0]).append(' ').append(andOf.get(v)[1]).append('\n');
        }
        return out.append(symbolLines()).toString();
    }

    private List<Integer> order() {
        List<Integer> waiting = new ArrayList<>(ands);
        List<Integer> order = new ArrayList<>();
        while (!waiting.isEmpty()) {
            for (int i = 0; i < waiting.size(); i++) {
                int[] operands = andOf.get(waiting.get(i));
                if (!waiting.contains(operands[0] / 2) && !waiting.contains(operands[1] / 2)) {
                    order.add(waiting.remove(i));
                    break;
                }
            }
        }
        return order;
    }

    String binary() {
        List<Integer> all = new ArrayList<>(List.of(0));
        all.addAll(inputs);
        all.addAll(latches);
        List<Integer> order = order();
        all.addAll(order);
        StringBuilder out = new StringBuilder("aig " + (all.size() - 1));
        for (int i = 1; i < 5; i++) {
            out.append(' ').append(head[i]);
        }
        out.append('\n');
        for (List<Integer> literals : List.of(nexts, outputs)) {
            literals.forEach(literal -> out.append(anew(all, literal)).append('\n'));
        }
        for (int v : order) {
            int first = anew(all, andOf.get(v)[0]);
            int second = anew(all, andOf.get(v)[1]);
            delta(out, 2 * all.indexOf(v) - Math.max(first, second));
            delta(out, Math.abs(first - second));
        }
        return out.append(symbolLines()).toString();
    }

    private static int anew(List<Integer> all, int literal) {
        return 2 * all.indexOf(literal / 2) + literal % 2;
    }

    private static void delta(StringBuilder out, int delta) {
        int rest = delta;
        while (rest >= 128) {
            out.append((char) (rest % 128 + 128));
            rest /= 128;
        }
        out.append((char) rest);
    }

    int value(int literal, int x) {
        if (literal < 0 || literal > 2 * head[0] + 1 || literal > 1 && !isDefined(literal / 2)) {
            return -1;
        }
        return bit(literal, x, new HashMap<>());
    }

    private int bit(int literal, int x, Map<Integer, Integer> known) {
        int v = literal / 2;
        Integer bit = known.get(v);
        if (bit == null) {
            if (v == 0) {
                bit = 0;
            } else if (inputOf.containsKey(v)) {
                bit = x >> inputOf.get(v) & 1;
            } else if (latchOf.containsKey(v)) {
                bit = state >> latchOf.get(v) & 1;
            } else {
                bit = bit(andOf.get(v)[0], x, known) & bit(andOf.get(v)[1], x, known);
            }
            known.put(v, bit);
        }
        return literal % 2 == 1 ? 1 - bit : bit;
    }

    int step(int x) {
        Map<Integer, Integer> known = new HashMap<>();
        int answer = 0;
        for (int k = 0; k < outputs.size(); k++) {
            answer |= bit(outputs.get(k), x, known) << k;
        }
        int after = 0;
        for (int k = 0; k < nexts.size(); k++) {
            after |= bit(nexts.get(k), x, known) << k;
        }
        state = after;
        return answer;
    }
}
