/**
 * One object under test, with files given as texts of characters 0 to 255. It counts the calls, as
 * the document promises nothing behind the 512th.
 */
final class Bench {
    static final int MOST_CALLS = 512;

    private final CircuitFiles files = new CircuitFiles();
    private int calls = 0;

    /** The object, for one call. */
    CircuitFiles call() {
        calls++;
        if (calls > MOST_CALLS) {
            throw new IllegalStateException("a test makes more calls than are promised");
        }
        return files;
    }

    int callsLeft() {
        return MOST_CALLS - calls;
    }

    /** Feeds the bytes; pieces of zeros alone need no feed. Answers the last end(). */
    int put(String bytes) {
        int answer = 0;
        for (int at = 0; at < bytes.length(); at += 20) {
            String piece = bytes.substring(at, Math.min(bytes.length(), at + 20));
            if (!piece.chars().allMatch(b -> b == 0)) {
                call().feed(word(piece, 0), word(piece, 4), word(piece, 8), word(piece, 12), word(piece, 16));
            }
            answer = call().end(piece.length());
        }
        return answer;
    }

    static int word(String bytes, int at) {
        int word = 0;
        for (int i = at; i < at + 4; i++) {
            word = word << 8 | (i < bytes.length() ? bytes.charAt(i) : 0);
        }
        return word;
    }

    /** "ands n" or "throws". */
    String load() {
        try {
            return "ands " + call().load();
        } catch (IllegalArgumentException e) {
            return "throws";
        }
    }

    /** Puts and loads a file: "ands n", or "fault f at p". */
    String read(String file) {
        put(file);
        String answer = load();
        int fault = call().fault(0);
        int place = call().fault(1);
        if (answer.equals("throws")) {
            return "fault " + fault + " at " + place;
        }
        return fault == 0 && place == CircuitFiles.NONE ? answer : answer + " with fault " + fault + " at " + place;
    }

    /** The whole form, of a circuit that is small enough for the calls that are left. */
    String form(boolean binary) {
        StringBuilder out = new StringBuilder();
        return formGoesOn(binary, out) ? out.append(" without an end").toString() : out.toString();
    }

    /** Adds bytes of the form until its end, or until no call is left: whether it goes on. */
    private boolean formGoesOn(boolean binary, StringBuilder out) {
        while (callsLeft() > 0) {
            int b = call().form(binary, out.length());
            if (b == CircuitFiles.NONE) {
                return false;
            }
            out.append((char) b);
        }
        return true;
    }

    /** The whole form of a long file, read piece by piece with new objects. */
    static String longForm(String file, boolean binary) {
        StringBuilder out = new StringBuilder();
        for (int pieces = 0; pieces < 1000; pieces++) {
            Bench bench = new Bench();
            bench.put(file);
            bench.load();
            if (!bench.formGoesOn(binary, out)) {
                return out.toString();
            }
        }
        return out.append(" without an end").toString();
    }

    String name(int kind, int k) {
        StringBuilder out = new StringBuilder();
        for (int i = 0; i <= 50; i++) {
            int b = call().symbol(kind, k, i);
            if (b == CircuitFiles.NONE) {
                return out.toString();
            }
            out.append((char) b);
        }
        return out.append(" without an end").toString();
    }
}
