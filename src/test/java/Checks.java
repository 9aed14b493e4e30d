/** Counts the answers that are not as due, and ends the program with them. */
final class Checks {
    private int made = 0;
    private int wrong = 0;
    private int sentences = 0;
    private int madeBeforeSentence = 0;
    private String sentence = "";

    /** The document's sentence, in its words, that the next answers are about. */
    void sentence(String words) {
        endSentence();
        sentences++;
        sentence = words;
        madeBeforeSentence = made;
    }

    /** A sentence without a check would look as if it had been tested. */
    private void endSentence() {
        if (sentences > 0 && made == madeBeforeSentence) {
            tell("nothing is checked");
        }
    }

    void same(String call, long got, long due) {
        made++;
        if (got != due) {
            tell(call + " answered " + got + ", due is " + due);
        }
    }

    void same(String call, String got, String due) {
        made++;
        if (!got.equals(due)) {
            tell(call + " answered " + shown(got) + ", due is " + shown(due));
        }
    }

    /** What a new object makes of a file: "ands n", or "fault f at p". */
    void reads(String file, String due) {
        same(shown(file), new Bench().read(file), due);
    }

    void endsTooEarly(String file) {
        reads(file, "fault 1 at " + file.length());
    }

    void finish() {
        endSentence();
        String all = made + " answers" + (sentences > 0 ? " to " + sentences + " sentences" : "");
        System.out.println(wrong == 0 ? all + " are as due" : wrong + " of " + all + " are not as due");
        if (wrong != 0) {
            System.exit(1);
        }
    }

    private void tell(String line) {
        wrong++;
        if (wrong <= 40) {
            System.out.println(sentence.isEmpty() ? line : "'" + sentence + "': " + line);
        }
    }

    /** Bytes that a terminal does not show, as numbers. */
    static String shown(String bytes) {
        StringBuilder out = new StringBuilder("\"");
        for (char b : bytes.toCharArray()) {
            if (b == '\n') {
                out.append("\\n");
            } else if (b >= 32 && b < 127) {
                out.append(b);
            } else {
                out.append('{').append((int) b).append('}');
            }
        }
        return out.append('"').toString();
    }
}
