/** Counts the answers that are not as due, and ends the program with them. */
final class Checks {
    private int made = 0;
    private int wrong = 0;

    void same(String call, long got, long due) {
        made++;
        if (got != due) {
            tell(call + " answered " + got + ", due is " + due);
        }
    }

    void same(String call, String got, String due) {
        made++;
        if (!got.equals(due)) {
            tell(call + " answered " + shown(got) + ", due is " + shown(due));
        }
    }

    void finish() {
        System.out.println(wrong == 0 ? made + " answers are as due" : wrong + " of " + made + " answers are not as due");
        if (wrong != 0) {
            System.exit(1);
        }
    }

    private void tell(String line) {
        wrong++;
        if (wrong <= 40) {
            System.out.println(line);
        }
    }

    /** Bytes that a terminal does not show, as numbers. */
    static String shown(String bytes) {
        StringBuilder out = new StringBuilder("\"");
        for (char b : bytes.toCharArray()) {
            if (b == '\n') {
                out.append("\\n");
            } else if (b >= 32 && b < 127) {
                out.append(b);
            } else {
                out.append('{').append((int) b).append('}');
            }
        }
        return out.append('"').toString();
    }
}
