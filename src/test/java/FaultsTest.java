/** The six faults, each with its place and the order in which they are met. */
public final class FaultsTest {
    private static final Checks checks = new Checks();

    private FaultsTest() {
    }

    public static void main(String[] args) {
        firstLine();
        numbers();
        bounds();
        textLines();
        literals();
        definitions();
        deltas();
        symbols();
        comment();
        undefined();
        loops();
        firstOfSeveral();
        checks.finish();
    }

    private static void due(String file, String answer) {
        checks.same(Checks.shown(file), new Bench().read(file), answer);
    }

    private static void faultAtEnd(String file) {
        due(file, "fault 1 at " + file.length());
    }

    private static void firstLine() {
        String[] whole = {"aag 0 0 0 0 0\n", "aig 0 0 0 0 0\n"};
        for (String file : whole) {
            due(file, "ands 0");
            for (int length = 0; length < file.length(); length++) {
                faultAtEnd(file.substring(0, length));
                due(file.substring(0, length) + "\0" + file.substring(length), "fault 1 at " + length);
            }
        }
        due("abg 0 0 0 0 0\n", "fault 1 at 1");
        due("aag  0 0 0 0 0\n", "fault 1 at 4");
        due("aag 0 0 0 0 0 \n", "fault 1 at 13");
        due("aag 0 0 0 0\n", "fault 1 at 11");
        due("aag 0 0 0 0 0\r\n", "fault 1 at 13");
    }

    private static void numbers() {
        due("aag 00 0 0 0 0\n", "fault 1 at 5");
        due("aag 01 0 0 0 0\n", "fault 1 at 5");
        due("aag 12345 0 0 0 0\n", "fault 1 at 8");
        due("aag 9999 9999 9999 9999 9999\n", "fault 2 at 29");
        due("aag -1 0 0 0 0\n", "fault 1 at 4");
        due("aag 1 1 0 0 0\n02\n", "fault 1 at 15");
        due("aag 1 1 0 0 0\n12345\n", "fault 1 at 18");
        due("aag 1 1 0 0 0\n9999\n", "fault 3 at 14");
        due("aag 1 1 0 0 0\n:\n", "fault 1 at 14");
        due("aag 1 1 0 0 0\n/\n", "fault 1 at 14");
        due("aag 1 1 0 0 0\n2:\n", "fault 1 at 15");
        due("aag 1 1 0 0 0\n2/\n", "fault 1 at 15");
    }

    private static void bounds() {
        due("aag 400 0 0 0 0\n", "ands 0");
        due("aag 401 0 0 0 0\n", "fault 2 at 16");
        due("aag 400 7 0 0 0\n", "fault 2 at 16");
        due("aag 400 6 0 0 0\n", "fault 1 at 16");
        due("aag 400 0 8 0 0\n", "fault 2 at 16");
        due("aag 400 0 7 0 0\n", "fault 1 at 16");
        due("aag 400 0 0 9 0\n", "fault 2 at 16");
        due("aag 400 0 0 8 0\n", "fault 1 at 16");
        due("aag 400 0 0 0 301\n", "fault 2 at 18");
        due("aag 400 0 0 0 300\n", "fault 1 at 18");
        due("aag 2 1 1 0 1\n", "fault 2 at 14");
        due("aag 3 1 1 0 1\n", "fault 1 at 14");
        due("aag 4 1 1 0 1\n", "fault 1 at 14");
        due("aig 2 1 1 0 1\n", "fault 2 at 14");
        due("aig 3 1 1 0 1\n", "fault 1 at 14");
        due("aig 4 1 1 0 1\n", "fault 2 at 14");
        due("aig 7 7 0 0 0\n", "fault 2 at 14");
        due("aig 6 6 0 0 0\n", "ands 0");
        due("aig 301 0 0 0 301\n", "fault 2 at 18");
        due("aag 401 0 0 0 0", "fault 1 at 15");
        due("aag 401 0 0 0 0x", "fault 1 at 15");
    }

    private static void textLines() {
        String file = "aag 4 1 1 1 1\n2\n4 9\n8\n8 2 5\n";
        due(file, "ands 1");
        for (int length = 0; length < file.length(); length++) {
            faultAtEnd(file.substring(0, length));
            due(file.substring(0, length) + "\0" + file.substring(length), "fault 1 at " + length);
        }
        String binary = "aig 3 1 1 1 1\n7\n6\n\2\2";
        due(binary, "ands 1");
        for (int length = 0; length < binary.length(); length++) {
            faultAtEnd(binary.substring(0, length));
        }
        due("aag 1 1 0 0 0\n2 \n", "fault 1 at 15");
        due("aag 1 0 1 0 0\n2\n", "fault 1 at 15");
        due("aag 1 0 1 0 0\n2  2\n", "fault 1 at 16");
        due("aag 1 0 1 0 0\n2 2 0\n", "fault 1 at 17");
        due("aag 1 0 0 0 1\n2 0\n", "fault 1 at 17");
        due("aag 1 0 0 0 1\n2 0 0 0\n", "fault 1 at 19");
    }

    private static void literals() {
        due("aag 2 1 0 0 0\n6\n", "fault 3 at 14");
        due("aag 2 1 0 1 0\n2\n6\n", "fault 3 at 16");
        due("aag 2 1 0 1 0\n2\n3\n", "ands 0");
        due("aag 2 0 1 0 0\n6 0\n", "fault 3 at 14");
        due("aag 2 0 1 0 0\n2 6\n", "fault 3 at 16");
        due("aag 2 0 0 0 1\n6 0 0\n", "fault 3 at 14");
        due("aag 2 0 0 0 1\n2 6 0\n", "fault 3 at 16");
        due("aag 2 0 0 0 1\n2 0 6\n", "fault 3 at 18");
        due("aag 0 0 0 1 0\n2\n", "fault 3 at 14");
        due("aag 0 0 0 2 0\n1\n0\n", "ands 0");
        due("aag 400 1 0 1 0\n800\n801\n", "ands 0");
        due("aag 400 1 0 1 0\n800\n802\n", "fault 3 at 20");
        due("aig 1 0 1 0 0\n4\n", "fault 3 at 14");
        due("aig 1 0 1 0 0\n3\n", "ands 0");
        due("aig 1 0 1 1 0\n3\n4\n", "fault 3 at 16");
        due("aag 2 1 0 1 0\n2\n6x", "fault 3 at 16");
    }

    private static void definitions() {
        for (int literal : new int[] {0, 1, 3, 5}) {
            due("aag 2 1 0 0 0\n" + literal + "\n", "fault 4 at 14");
            due("aag 2 0 1 0 0\n" + literal + " 0\n", "fault 4 at 14");
            due("aag 2 0 0 0 1\n" + literal + " 0 0\n", "fault 4 at 14");
            due("aag 2 0 0 0 1\n" + literal + "x", "fault 4 at 14");
        }
        due("aag 2 1 0 0 0\n7\n", "fault 3 at 14");
        due("aag 2 2 0 0 0\n4\n4\n", "fault 4 at 16");
        due("aag 2 1 1 0 0\n4\n4 0\n", "fault 4 at 16");
        due("aag 2 0 2 0 0\n4 0\n4 0\n", "fault 4 at 18");
        due("aag 2 1 0 0 1\n4\n4 0 0\n", "fault 4 at 16");
        due("aag 2 0 1 0 1\n4 0\n4 0 0\n", "fault 4 at 18");
        due("aag 2 0 0 0 2\n4 0 0\n4 0 0\n", "fault 4 at 20");
        due("aag 2 2 0 0 0\n4\n5\n", "fault 4 at 16");
    }

    private static void deltas() {
        String start = "aig 3 2 0 0 1\n";
        due(start + "\0\0", "fault 3 at 14");
        due(start + "\1\0", "ands 1");
        due(start + "\6\0", "ands 1");
        due(start + "\7\0", "fault 3 at 14");
        due(start + "\1\5", "ands 1");
        due(start + "\1\6", "fault 3 at 15");
        due(start + "\6\1", "fault 3 at 15");
        due(start + "\u0080\0\0", "fault 3 at 14");
        due(start + "\u0081\u0080\0\u0085\u0080\0", "ands 1");
        due(start + "\u0081\u0080\0\u0086\u0080\0", "fault 3 at 17");
        due(start + "\u0080\1\0", "fault 3 at 14");
        due(start + "\u0081\u0080\1\0", "fault 3 at 14");
        due(start + "\1\u0080\u0080\1", "fault 3 at 15");
        due(start + "\u0081\u0080\u0080\0\0", "fault 1 at 17");
        due(start + "\u0081\u0080\u0080", "fault 1 at 17");
        due(start + "\u0081\u0080", "fault 1 at 16");
        due(start + "\u0081", "fault 1 at 15");
        due(start + "\1\u00ff\u00ff\u00ff\1", "fault 1 at 18");
        due(start + "\1", "fault 1 at 15");
        due(start + "\0", "fault 3 at 14");
        due(start + "\1\0x", "fault 1 at 16");
        due("aig 4 2 0 0 2\n\1\0\1\10", "fault 3 at 17");
        due("aig 4 2 0 0 2\n\1\0\1\7", "ands 2");
    }

    private static void symbols() {
        String start = "aag 3 1 1 1 0\n2\n4 4\n2\n";
        int at = start.length();
        for (String letter : new String[] {"i", "l", "o"}) {
            due(start + letter + "0 x\n", "ands 0");
            due(start + letter + "1 x\n", "fault 1 at " + (at + 2));
            due(start + letter + "10 x\n", "fault 1 at " + (at + 3));
            due(start + letter + "9999 x\n", "fault 1 at " + (at + 5));
            due(start + letter + "99999 x\n", "fault 1 at " + (at + 5));
            due(start + letter + "00 x\n", "fault 1 at " + (at + 2));
            due(start + letter + "1", "fault 1 at " + (at + 2));
            due(start + letter + " x\n", "fault 1 at " + (at + 1));
            due(start + letter + "0\n", "fault 1 at " + (at + 2));
            due(start + letter + "0 \n", "fault 1 at " + (at + 3));
            due(start + letter + "0  \n", "ands 0");
            due(start + letter + "0 x\n" + letter + "0 y\n", "fault 1 at " + (at + 7));
            due(start + letter + "0 " + "n".repeat(40) + "\n", "ands 0");
            due(start + letter + "0 " + "n".repeat(41) + "\n", "fault 1 at " + (at + 43));
            due(start + letter + "0 " + "n".repeat(60), "fault 1 at " + (at + 43));
            for (String cut : new String[] {"", "0", "0 ", "0 x", "0 " + "n".repeat(40)}) {
                faultAtEnd(start + letter + cut);
            }
        }
        due(start + "o0 c\nl0 \0\u00ff\ni0 i0 x\n", "ands 0");
        due(start + "x0 c\n", "fault 1 at " + at);
        due(start + "\n", "fault 1 at " + at);
        due(start + "i0 x\n\n", "fault 1 at " + (at + 5));
        due("aag 0 0 0 0 0\no0 x\n", "fault 1 at 16");
        due("aig 3 2 0 0 1\n\2\2i0 x\ni1 y\n", "ands 1");
        due("aig 3 2 0 0 1\n\2\2i0 x\ni2 y\n", "fault 1 at 23");
        StringBuilder all = new StringBuilder("aig 13 6 7 8 0\n");
        all.append("2\n".repeat(15));
        for (int k = 7; k >= 0; k--) {
            all.append("o" + k + " n\n").append(k < 7 ? "l" + k + " n\n" : "").append(k < 6 ? "i" + k + " n\n" : "");
        }
        due(all.toString(), "ands 0");
        due(all + "c\nx", "ands 0");
        due(all + "o0 n\n", "fault 1 at " + (all.length() + 2));
    }

    private static void comment() {
        String start = "aag 0 0 0 0 0\n";
        due(start + "c\n", "ands 0");
        due(start + "c\n\0\u00ff\n\nx", "ands 0");
        faultAtEnd(start + "c");
        due(start + "cc\n", "fault 1 at 15");
        due(start + "c \n", "fault 1 at 15");
        due("aag 0 0 0 1 0\n0\nc\no0 x", "ands 0");
    }

    private static void undefined() {
        due("aag 3 1 1 1 1\n2\n4 2\n4\n6 2 4\n", "ands 1");
        due("aag 4 1 1 1 1\n2\n4 8\n8\n6 8 8\n", "fault 5 at 18");
        due("aag 4 1 1 1 1\n2\n4 2\n9\n6 8 8\n", "fault 5 at 20");
        due("aag 4 1 1 1 1\n2\n4 2\n4\n6 9 8\n", "fault 5 at 24");
        due("aag 4 1 1 1 1\n2\n4 2\n4\n6 2 8\n", "fault 5 at 26");
        due("aag 4 1 1 1 1\n2\n4 0\n1\n6 0 1\n", "ands 1");
        due("aag 4 1 1 1 1\n2\n4 6\n7\n6 2 4\n", "ands 1");
    }

    private static void loops() {
        due("aag 1 0 0 0 1\n2 2 0\n", "fault 6 at 1");
        due("aag 1 0 0 0 1\n2 0 3\n", "fault 6 at 1");
        due("aag 3 0 0 0 3\n6 4 1\n4 6 1\n2 4 1\n", "fault 6 at 2");
        due("aag 5 0 0 0 5\n2 8 4\n4 10 1\n10 6 1\n6 8 1\n8 7 1\n", "fault 6 at 3");
        due("aag 5 0 0 0 5\n10 10 1\n8 6 1\n6 8 1\n2 8 10\n4 2 2\n", "fault 6 at 3");
        due("aag 2 0 1 0 1\n2 4\n4 2 2\n", "ands 1");
        due("aag 2 1 0 0 1\n2\n4 4 2\n", "fault 6 at 2");

        due("aag 400 0 0 0 3\n2 800 1\n4 800 1\n800 4 1\n", "fault 6 at 2");
        StringBuilder ring = new StringBuilder("aag 400 0 0 0 300\n");
        for (int v = 400; v > 100; v--) {
            ring.append(2 * v).append(v == 101 ? " 800" : " " + (2 * v - 2)).append(" 1\n");
        }
        due(ring.toString(), "fault 6 at 101");
        StringBuilder tail = new StringBuilder("aag 400 0 0 0 300\n");
        for (int v = 101; v <= 400; v++) {
            tail.append(2 * v).append(v == 400 ? " 800" : " " + (2 * v + 2)).append(" 1\n");
        }
        due(tail.toString(), "fault 6 at 400");
    }

    private static void firstOfSeveral() {
        due("aag 3 1 0 1 1\n2\n6\n4 4 6\nx", "fault 1 at 24");
        due("aag 3 1 0 1 1\n2\n6\n4 4 6\n", "fault 5 at 16");
        due("aag 3 1 0 1 1\n2\n2\n4 4 8\n", "fault 3 at 22");
        due("aag 3 1 0 1 1\n2\n6\n2 4 8\n", "fault 4 at 18");
        due("aag 3 1 0 1 1\n9 \n2\n2 4 8\n", "fault 3 at 14");
        due("aag 3 1 0 1 1\n3 \n2\n2 4 8\n", "fault 4 at 14");
        due("aag 3 1 0 1 1\n2 \n2\n2 4 8\n", "fault 1 at 15");
        due("aag 3 1 0 1 1\n2\n2\n4 4 6\n", "fault 5 at 22");
        due("aag 3 1 0 1 1\n2\n2\n4 4 2\n", "fault 6 at 2");
    }
}
