/** Files that several tests need. */
final class Samples {
    /** One of each kind, and a name; every byte of it is needed. */
    static final String TEXT = "aag 4 1 1 1 1\n2\n4 9\n8\n8 2 5\no0 x\n";
    static final String BINARY = "aig 3 1 1 1 1\n7\n6\n\2\2o0 x\n";

    private static final String LONGEST_NAME = "x".repeat(40);

    private Samples() {
    }

    /** Every count at its most, every number as long as it can be, every name of 40 bytes: 4654 bytes. */
    static String longest() {
        StringBuilder out = new StringBuilder("aag 400 6 7 8 300\n");
        for (int k = 0; k < 6; k++) {
            out.append(800 - 2 * k).append('\n');
        }
        for (int k = 0; k < 7; k++) {
            out.append(780 - 2 * k).append(' ').append(801 - 2 * (k % 6)).append('\n');
        }
        for (int k = 0; k < 8; k++) {
            out.append(750 - 2 * k).append('\n');
        }
        for (int i = 0; i < 300; i++) {
            out.append(750 - 2 * i).append(" 800 801\n");
        }
        return out + names('i', 6) + names('l', 7) + names('o', 8);
    }

    private static String names(char letter, int count) {
        StringBuilder out = new StringBuilder();
        for (int k = 0; k < count; k++) {
            out.append(letter).append(k).append(' ').append(LONGEST_NAME).append('\n');
        }
        return out.toString();
    }

    /** Seven latches that count from 0 to 127 and then from 0 again; the outputs are the latches. */
    static String counter() {
        StringBuilder latches = new StringBuilder("2 3\n");
        StringBuilder ands = new StringBuilder();
        int carry = 2;
        int fresh = 16;
        for (int k = 1; k < 7; k++) {
            int latch = 2 * k + 2;
            int both = fresh;
            int neither = fresh + 2;
            int differ = fresh + 4;
            fresh += 6;
            latches.append(latch).append(' ').append(differ).append('\n');
            ands.append(both).append(' ').append(latch).append(' ').append(carry).append('\n');
            ands.append(neither).append(' ').append(latch + 1).append(' ').append(carry + 1).append('\n');
            ands.append(differ).append(' ').append(both + 1).append(' ').append(neither + 1).append('\n');
            carry = both;
        }
        return "aag 25 0 7 7 18\n" + latches + "2\n4\n6\n8\n10\n12\n14\n" + ands;
    }

    /** So many ands, each the and before negated, told from the last one to the first. */
    static String chainFromItsEnd(int ands) {
        StringBuilder out = new StringBuilder("aag " + (ands + 1) + " 1 0 1 " + ands + "\n2\n" + (2 * ands + 2) + "\n");
        for (int v = ands + 1; v > 1; v--) {
            out.append(2 * v).append(' ').append(2 * v - 1).append(" 1\n");
        }
        return out.toString();
    }
}
