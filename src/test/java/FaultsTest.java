/** The six faults, each sentence of the document about them with its places, one by one. */
public final class FaultsTest {
    private static final Checks checks = new Checks();

    private FaultsTest() {
    }

    public static void main(String[] args) {
        firstMetByReading();
        numberThenByteBehind();
        firstByteNotAsTold();
        tooShort();
        digitTooMuch();
        symbolNotThereOrNamedBefore();
        nameTooLongOrEmpty();
        deltasFourthByte();
        eachBound();
        sumOfKinds();
        boundsBehindFirstLine();
        literalTooGreat();
        firstDelta();
        secondDelta();
        definitionOf0Or1OrOdd();
        definedBefore();
        undefined();
        undefinedOnlyWithoutThese();
        loops();
        lowestOnLoop();
        longestLoops();
        loopsOnlyWithoutThese();
        checks.finish();
    }

    private static void firstMetByReading() {
        checks.sentence("FAULTS, the first one that is met by reading");
        checks.reads("aag 401 0 0 0 0", "fault 1 at 15");
        checks.reads("aag 401 0 0 0 0x", "fault 1 at 15");
        checks.reads("aag 401 0 0 0 0\nx", "fault 2 at 16");
        checks.reads("aag 401 00 0 0 0\n", "fault 1 at 9");
        checks.reads("aag 3 1 0 1 1\n2\n2\n4 4 8\nx", "fault 3 at 22");
        checks.reads("aag 3 1 0 1 1\n2\n2\n2 4 8\n", "fault 4 at 18");
        checks.reads("aag 3 1 0 1 1\n1\n9\n2 4 8\n", "fault 4 at 14");
        checks.reads("aag 3 1 0 1 1\n2\n9\n2 4 8\n", "fault 3 at 16");
        checks.reads("aag 3 2 0 0 0\n2\n2\ni9 x\n", "fault 4 at 16");
        checks.reads("aag 3 2 0 0 0\n2\n4\ni9 x\ni0 \n", "fault 1 at 20");
        checks.reads("aig 3 2 0 0 1\n\0\u0080\u0080\u0080\0", "fault 3 at 14");
        checks.reads("aig 3 2 0 0 1\n\7\7", "fault 3 at 14");
        checks.reads("aig 3 2 0 0 1\n\1\7x", "fault 3 at 15");
        checks.reads("aig 3 2 0 1 1\n8\n\0\0", "fault 3 at 14");
    }

    private static void numberThenByteBehind() {
        checks.sentence("(a number's own, then 3 and 4 for it, then the byte behind it)");
        checks.reads("aag 2 1 0 0 0\n07x", "fault 1 at 15");
        checks.reads("aag 2 1 0 0 0\n99999x", "fault 1 at 18");
        checks.reads("aag 2 1 0 0 0\n7x", "fault 3 at 14");
        checks.reads("aag 2 1 0 0 0\n7", "fault 3 at 14");
        checks.reads("aag 2 1 0 0 0\n5x", "fault 4 at 14");
        checks.reads("aag 2 1 0 0 0\n5", "fault 4 at 14");
        checks.reads("aag 2 1 0 0 0\n4x", "fault 1 at 15");
        checks.reads("aag 2 2 0 0 0\n4\n4x", "fault 4 at 16");
        checks.reads("aag 2 0 1 0 0\n6x", "fault 3 at 14");
        checks.reads("aag 2 0 1 0 0\n3x", "fault 4 at 14");
        checks.reads("aag 2 0 1 0 0\n4 6x", "fault 3 at 16");
        checks.reads("aag 2 0 1 0 0\n4 5x", "fault 1 at 17");
        checks.reads("aag 2 0 0 1 0\n6x", "fault 3 at 14");
        checks.reads("aag 2 0 0 1 0\n4x", "fault 1 at 15");
        checks.reads("aag 2 0 0 0 1\n6x", "fault 3 at 14");
        checks.reads("aag 2 0 0 0 1\n1x", "fault 4 at 14");
        checks.reads("aag 2 0 0 0 1\n4 6x", "fault 3 at 16");
        checks.reads("aag 2 0 0 0 1\n4 0 6x", "fault 3 at 18");
        checks.reads("aag 2 0 0 0 1\n4 0 5x", "fault 1 at 19");
        checks.reads("aig 1 0 1 0 0\n4x", "fault 3 at 14");
        checks.reads("aig 1 0 1 0 0\n3x", "fault 1 at 15");
    }

    private static void firstByteNotAsTold() {
        checks.sentence("1 SYNTAX: at the first byte that is not as told");
        String[] files = {"aag 0 0 0 0 0\n", "aig 0 0 0 0 0\n", Samples.TEXT};
        for (String file : files) {
            // In a name a 0 is as good as another byte.
            int end = file.contains("x") ? file.indexOf('x') : file.length();
            for (int at = 0; at < end; at++) {
                checks.reads(file.substring(0, at) + "\0" + file.substring(at), "fault 1 at " + at);
                checks.reads(file.substring(0, at) + "\0" + file.substring(at + 1), "fault 1 at " + at);
            }
        }
        checks.reads("abg 0 0 0 0 0\n", "fault 1 at 1");
        checks.reads("\0", "fault 1 at 0");
        checks.reads("x".repeat(200), "fault 1 at 0");
        String longest = Samples.longest();
        checks.reads(longest + "x", "fault 1 at 4654");
    }

    private static void tooShort() {
        checks.sentence("(the length, if the file is too short");
        checks.endsTooEarly("");
        for (String file : new String[] {Samples.TEXT, Samples.BINARY}) {
            checks.reads(file, "ands 1");
            int symbol = file.indexOf("o0");
            for (int length = 0; length < file.length(); length++) {
                checks.reads(file.substring(0, length), length == symbol ? "ands 1" : "fault 1 at " + length);
            }
        }
        checks.endsTooEarly("aag 0 0 0 0 0\nc");
        checks.endsTooEarly("aig 3 2 0 0 1\n\u0081");
        checks.endsTooEarly("aig 3 2 0 0 1\n\u0081\u0080");
        String longest = Samples.longest();
        checks.endsTooEarly(longest.substring(0, longest.length() - 1));
    }

    private static void digitTooMuch() {
        checks.sentence("of a number the digit that is too much");
        checks.reads("aag 00 0 0 0 0\n", "fault 1 at 5");
        checks.reads("aag 01 0 0 0 0\n", "fault 1 at 5");
        checks.reads("aag 00000 0 0 0 0\n", "fault 1 at 5");
        checks.reads("aag 09", "fault 1 at 5");
        checks.reads("aag 12345 0 0 0 0\n", "fault 1 at 8");
        checks.reads("aag 123456 0 0 0 0\n", "fault 1 at 8");
        checks.reads("aag 10000 0 0 0 0\n", "fault 1 at 8");
        checks.reads("aag 4294967296 0 0 0 0\n", "fault 1 at 8");
        checks.reads("aag 0 0 0 0 12345\n", "fault 1 at 16");
        checks.reads("aag 1 1 0 0 0\n02\n", "fault 1 at 15");
        checks.reads("aag 1 1 0 0 0\n12345\n", "fault 1 at 18");
        checks.reads("aag 1 1 0 0 0\n2\ni00 x\n", "fault 1 at 18");
        checks.reads("aag 1 1 0 0 0\n2\ni10000 x\n", "fault 1 at 21");
        checks.reads("aag 1234", "fault 1 at 8");
    }

    private static void symbolNotThereOrNamedBefore() {
        checks.sentence("of a symbol whose k is not there, or was named before, the byte behind the number");
        String start = "aag 3 1 1 1 0\n2\n4 4\n2\n";
        int at = start.length();
        for (String letter : new String[] {"i", "l", "o"}) {
            checks.reads(start + letter + "0 x\n", "ands 0");
            checks.reads(start + letter + "1 x\n", "fault 1 at " + (at + 2));
            checks.reads(start + letter + "1x", "fault 1 at " + (at + 2));
            checks.reads(start + letter + "1", "fault 1 at " + (at + 2));
            checks.reads(start + letter + "10 x\n", "fault 1 at " + (at + 3));
            checks.reads(start + letter + "100 x\n", "fault 1 at " + (at + 4));
            checks.reads(start + letter + "9999 x\n", "fault 1 at " + (at + 5));
            checks.reads(start + letter + "0 x\n" + letter + "0 y\n", "fault 1 at " + (at + 7));
            checks.reads(start + letter + "0 x\n" + letter + "0", "fault 1 at " + (at + 7));
            checks.reads(start + letter + "0 x\n" + letter + "1 y\n", "fault 1 at " + (at + 7));
            checks.reads(start + letter + " x\n", "fault 1 at " + (at + 1));
            checks.reads(start + letter + "0\n", "fault 1 at " + (at + 2));
        }
        checks.reads("aag 0 0 0 0 0\no0 x\n", "fault 1 at 16");
        checks.reads("aig 3 2 0 0 1\n\2\2i0 x\ni2 y\n", "fault 1 at 23");
    }

    private static void nameTooLongOrEmpty() {
        checks.sentence("a name's 41st byte, or the line's end if it is empty");
        String start = "aag 3 1 1 1 0\n2\n4 4\n2\n";
        int at = start.length() + 3;
        for (String symbol : new String[] {"i0 ", "l0 ", "o0 "}) {
            checks.reads(start + symbol + "n".repeat(40) + "\n", "ands 0");
            checks.reads(start + symbol + "n".repeat(41) + "\n", "fault 1 at " + (at + 40));
            checks.reads(start + symbol + "n".repeat(41), "fault 1 at " + (at + 40));
            checks.reads(start + symbol + "n".repeat(60), "fault 1 at " + (at + 40));
            checks.reads(start + symbol + "\n", "fault 1 at " + at);
            checks.reads(start + symbol + "\nn\n", "fault 1 at " + at);
            checks.reads(start + symbol, "fault 1 at " + at);
            checks.reads(start + symbol + "n\n\n", "fault 1 at " + (at + 2));
        }
    }

    private static void deltasFourthByte() {
        checks.sentence("a delta's fourth byte, so to say behind three with 128");
        String start = "aig 3 2 0 0 1\n";
        checks.reads(start + "\u0081\u0080\0\0", "ands 1");
        checks.reads(start + "\u0081\u0080\u0080\0\0", "fault 1 at 17");
        checks.reads(start + "\u0081\u0080\u0080", "fault 1 at 17");
        checks.reads(start + "\u0080\u0080\u0080\0", "fault 1 at 17");
        checks.reads(start + "\u00ff\u00ff\u00ff\u00ff", "fault 1 at 17");
        checks.reads(start + "\1\u0081\u0080\0", "ands 1");
        checks.reads(start + "\1\u0081\u0080\u0080\0", "fault 1 at 18");
        checks.reads(start + "\1\u0081\u0080\u0080", "fault 1 at 18");
        checks.reads(start + "\1\u00ff\u00ff\u00ff\1", "fault 1 at 18");
        checks.reads(start + "\u0081\u0080\0\u0081\u0080\u0080\0", "fault 1 at 20");
    }

    private static void eachBound() {
        checks.sentence("2 BOUNDS, behind the first line: M above 400, I above 6, L above 7, O above 8, A above 300");
        checks.reads("aag 400 0 0 0 0\n", "ands 0");
        checks.reads("aag 401 0 0 0 0\n", "fault 2 at 16");
        checks.reads("aag 9999 0 0 0 0\n", "fault 2 at 17");
        String[] counts = {"6 0 0 0", "0 7 0 0", "0 0 8 0", "0 0 0 300"};
        String[] tooMany = {"7 0 0 0", "0 8 0 0", "0 0 9 0", "0 0 0 301"};
        for (int kind = 0; kind < 4; kind++) {
            checks.endsTooEarly("aag 400 " + counts[kind] + "\n");
            String above = "aag 400 " + tooMany[kind] + "\n";
            checks.reads(above, "fault 2 at " + above.length());
        }
        for (String most : new String[] {"9999 0 0 0", "0 9999 0 0", "0 0 9999 0", "0 0 0 9999"}) {
            checks.reads("aag 400 " + most + "\n", "fault 2 at 19");
        }
        checks.endsTooEarly("aag 400 6 7 8 300\n");
        checks.reads("aig 6 6 0 0 0\n", "ands 0");
        checks.reads("aig 7 7 0 0 0\n", "fault 2 at 14");
        checks.endsTooEarly("aig 7 0 7 0 0\n");
        checks.reads("aig 8 0 8 0 0\n", "fault 2 at 14");
        checks.endsTooEarly("aig 0 0 0 8 0\n");
        checks.reads("aig 0 0 0 9 0\n", "fault 2 at 14");
        checks.endsTooEarly("aig 300 0 0 0 300\n");
        checks.reads("aig 301 0 0 0 301\n", "fault 2 at 18");
    }

    private static void sumOfKinds() {
        checks.sentence("M less than I + L + A, or in a binary file not just that");
        for (String counts : new String[] {"1 0 0 0", "0 1 0 0", "0 0 0 1"}) {
            checks.reads("aag 0 " + counts + "\n", "fault 2 at 14");
            checks.endsTooEarly("aag 1 " + counts + "\n");
            checks.endsTooEarly("aag 2 " + counts + "\n");
            checks.reads("aig 0 " + counts + "\n", "fault 2 at 14");
            checks.reads("aig 2 " + counts + "\n", "fault 2 at 14");
        }
        checks.reads("aig 1 1 0 0 0\n", "ands 0");
        checks.reads("aig 1 0 0 0 0\n", "fault 2 at 14");
        checks.reads("aag 312 6 7 8 300\n", "fault 2 at 18");
        checks.endsTooEarly("aag 313 6 7 8 300\n");
        checks.reads("aig 312 6 7 8 300\n", "fault 2 at 18");
        checks.endsTooEarly("aig 313 6 7 8 300\n");
        checks.reads("aig 314 6 7 8 300\n", "fault 2 at 18");
        // Outputs are no variables.
        checks.reads("aag 0 0 0 1 0\n0\n", "ands 0");
        checks.reads("aig 0 0 0 1 0\n0\n", "ands 0");
        checks.reads("aig 1 0 0 1 0\n0\n", "fault 2 at 14");
    }

    private static void boundsBehindFirstLine() {
        checks.sentence("2 BOUNDS, behind the first line");
        checks.reads("aag 0 1 0 0 0\n", "fault 2 at 14");
        checks.reads("aag 9999 9999 9999 9999 9999\n", "fault 2 at 29");
        checks.reads("aag 9999 9999 9999 9999 9999\n2\n", "fault 2 at 29");
        checks.reads("aig 9999 9999 9999 9999 9999\n", "fault 2 at 29");
        checks.reads("aag 9999 9999 9999 9999 9999", "fault 1 at 28");
    }

    private static void literalTooGreat() {
        checks.sentence("3 a literal above 2 * M + 1");
        checks.reads("aag 2 1 0 0 0\n4\n", "ands 0");
        checks.reads("aag 2 1 0 0 0\n6\n", "fault 3 at 14");
        checks.reads("aag 2 1 0 1 0\n4\n5\n", "ands 0");
        checks.reads("aag 2 1 0 1 0\n4\n6\n", "fault 3 at 16");
        checks.reads("aag 2 0 1 0 0\n4 5\n", "ands 0");
        checks.reads("aag 2 0 1 0 0\n6 0\n", "fault 3 at 14");
        checks.reads("aag 2 0 1 0 0\n4 6\n", "fault 3 at 16");
        checks.reads("aag 2 1 0 0 1\n4\n2 5 5\n", "ands 1");
        checks.reads("aag 2 0 0 0 1\n6 0 0\n", "fault 3 at 14");
        checks.reads("aag 2 0 0 0 1\n2 6 0\n", "fault 3 at 16");
        checks.reads("aag 2 0 0 0 1\n2 0 6\n", "fault 3 at 18");
        checks.reads("aag 0 0 0 1 0\n1\n", "ands 0");
        checks.reads("aag 0 0 0 1 0\n2\n", "fault 3 at 14");
        checks.reads("aag 400 1 0 1 0\n800\n801\n", "ands 0");
        checks.reads("aag 400 1 0 1 0\n800\n802\n", "fault 3 at 20");
        checks.reads("aag 400 1 0 1 0\n800\n9999\n", "fault 3 at 20");
        checks.reads("aig 1 0 1 0 0\n3\n", "ands 0");
        checks.reads("aig 1 0 1 0 0\n4\n", "fault 3 at 14");
        checks.reads("aig 1 0 1 1 0\n3\n3\n", "ands 0");
        checks.reads("aig 1 0 1 1 0\n3\n4\n", "fault 3 at 16");
    }

    private static void firstDelta() {
        checks.sentence("a first delta of 0 or above 2 * v");
        String start = "aig 3 2 0 0 1\n";
        checks.reads(start + "\0\0", "fault 3 at 14");
        checks.reads(start + "\0", "fault 3 at 14");
        checks.reads(start + "\u0080\0\0", "fault 3 at 14");
        checks.reads(start + "\u0080\u0080\0\0", "fault 3 at 14");
        checks.reads(start + "\1\0", "ands 1");
        checks.reads(start + "\6\0", "ands 1");
        checks.reads(start + "\7\0", "fault 3 at 14");
        checks.reads(start + "\7", "fault 3 at 14");
        checks.reads(start + "\177\0", "fault 3 at 14");
        checks.reads(start + "\u0080\1\0", "fault 3 at 14");
        checks.reads(start + "\u0081\u0080\1\0", "fault 3 at 14");
        checks.reads("aig 1 0 0 0 1\n\2\0", "ands 1");
        checks.reads("aig 1 0 0 0 1\n\3\0", "fault 3 at 14");
        checks.reads("aig 2 0 0 0 2\n\2\0\4\0", "ands 2");
        checks.reads("aig 2 0 0 0 2\n\2\0\5\0", "fault 3 at 16");
        checks.reads("aig 2 0 0 0 2\n\2\0\0\0", "fault 3 at 16");
    }

    private static void secondDelta() {
        checks.sentence("a second one above the first operand: its first byte");
        String start = "aig 3 2 0 0 1\n";
        checks.reads(start + "\1\0", "ands 1");
        checks.reads(start + "\1\5", "ands 1");
        checks.reads(start + "\1\6", "fault 3 at 15");
        checks.reads(start + "\6\0", "ands 1");
        checks.reads(start + "\6\1", "fault 3 at 15");
        checks.reads(start + "\1\177", "fault 3 at 15");
        checks.reads(start + "\1\u0080\1", "fault 3 at 15");
        checks.reads(start + "\1\u0080\u0080\1", "fault 3 at 15");
        checks.reads(start + "\u0081\0\u0085\0", "ands 1");
        checks.reads(start + "\u0081\0\u0086\0", "fault 3 at 16");
        checks.reads(start + "\u0081\u0080\0\u0085\u0080\0", "ands 1");
        checks.reads(start + "\u0081\u0080\0\u0086\u0080\0", "fault 3 at 17");
        checks.reads("aig 4 2 0 0 2\n\1\0\1\7", "ands 2");
        checks.reads("aig 4 2 0 0 2\n\1\0\1\10", "fault 3 at 17");
    }

    private static void definitionOf0Or1OrOdd() {
        checks.sentence("4 a literal that is to define is 0, 1 or odd");
        for (int literal = 0; literal <= 6; literal++) {
            boolean right = literal == 2 || literal == 4;
            String due = right ? "ands 0" : literal == 6 ? "fault 3 at 14" : "fault 4 at 14";
            checks.reads("aag 2 1 0 0 0\n" + literal + "\n", due);
            checks.reads("aag 2 0 1 0 0\n" + literal + " 0\n", due);
            checks.reads("aag 2 0 0 0 1\n" + literal + " 0 0\n", right ? "ands 1" : due);
        }
        checks.reads("aag 2 1 0 0 0\n7\n", "fault 3 at 14");
        checks.reads("aag 400 1 0 0 0\n800\n", "ands 0");
        checks.reads("aag 400 1 0 0 0\n801\n", "fault 4 at 16");
        checks.reads("aag 400 2 0 0 0\n800\n799\n", "fault 4 at 20");
    }

    private static void definedBefore() {
        checks.sentence("or its variable was defined before: its first byte");
        checks.reads("aag 2 2 0 0 0\n4\n4\n", "fault 4 at 16");
        checks.reads("aag 2 2 0 0 0\n4\n5\n", "fault 4 at 16");
        checks.reads("aag 2 1 1 0 0\n4\n4 0\n", "fault 4 at 16");
        checks.reads("aag 2 0 2 0 0\n4 0\n4 0\n", "fault 4 at 18");
        checks.reads("aag 2 1 0 0 1\n4\n4 0 0\n", "fault 4 at 16");
        checks.reads("aag 2 0 1 0 1\n4 0\n4 0 0\n", "fault 4 at 18");
        checks.reads("aag 2 0 0 0 2\n4 0 0\n4 0 0\n", "fault 4 at 20");
        checks.reads("aag 400 2 0 0 0\n800\n800\n", "fault 4 at 20");
        checks.reads("aag 400 6 0 0 0\n2\n4\n6\n8\n10\n2\n", "fault 4 at 27");
        // A use is no definition.
        checks.reads("aag 2 0 1 1 1\n2 4\n4\n4 2 2\n", "ands 1");
    }

    private static void undefined() {
        checks.sentence("5 a next, an output or an operand whose variable is defined nowhere: "
            + "the first byte (of a delta: its) of the first one in the file");
        checks.reads("aag 3 1 1 1 1\n2\n4 2\n4\n6 2 4\n", "ands 1");
        checks.reads("aag 4 1 1 1 1\n2\n4 8\n8\n6 8 8\n", "fault 5 at 18");
        checks.reads("aag 4 1 1 1 1\n2\n4 9\n2\n6 2 2\n", "fault 5 at 18");
        checks.reads("aag 4 1 1 1 1\n2\n4 2\n9\n6 8 8\n", "fault 5 at 20");
        checks.reads("aag 4 1 1 1 1\n2\n4 2\n4\n6 9 8\n", "fault 5 at 24");
        checks.reads("aag 4 1 1 1 1\n2\n4 2\n4\n6 2 8\n", "fault 5 at 26");
        checks.reads("aag 4 1 1 1 1\n2\n4 0\n1\n6 0 1\n", "ands 1");
        checks.reads("aag 4 1 1 1 1\n2\n4 6\n7\n6 2 4\n", "ands 1");
        checks.reads("aag 400 0 0 1 0\n800\n", "fault 5 at 16");
        checks.reads("aag 400 0 0 1 0\n2\n", "fault 5 at 16");
        checks.reads("aag 1 0 0 8 0\n0\n0\n0\n0\n0\n0\n0\n3\n", "fault 5 at 28");
        String longest = Samples.longest();
        int last = longest.indexOf("i0 ") - 4;
        checks.reads(longest.substring(0, last) + "100" + longest.substring(last + 3), "fault 5 at " + last);
        // In a binary file each literal up to 2 * M + 1 has its variable.
        checks.reads("aig 3 1 1 1 1\n7\n7\n\1\0", "ands 1");
    }

    private static void undefinedOnlyWithoutThese() {
        checks.sentence("Without these: 5");
        checks.reads("aag 3 1 0 1 1\n2\n6\n4 4 6\n", "fault 5 at 16");
        checks.reads("aag 3 1 0 1 1\n2\n6\n4 4 6\nx", "fault 1 at 24");
        checks.reads("aag 3 1 0 1 1\n2\n6\n4 4 8\n", "fault 3 at 22");
        checks.reads("aag 3 1 0 1 1\n2\n6\n2 4 6\n", "fault 4 at 18");
        checks.reads("aag 3 1 0 1 1\n2\n6\n4 4 6\ni0 \n", "fault 1 at 27");
        checks.reads("aag 3 1 0 1 1\n2\n6\n4 4 6\nc", "fault 1 at 25");
    }

    private static void loops() {
        checks.sentence("6 the ands hang on themselves");
        checks.reads("aag 1 0 0 0 1\n2 2 0\n", "fault 6 at 1");
        checks.reads("aag 1 0 0 0 1\n2 0 2\n", "fault 6 at 1");
        checks.reads("aag 1 0 0 0 1\n2 0 3\n", "fault 6 at 1");
        checks.reads("aag 1 0 0 0 1\n2 1 1\n", "ands 1");
        checks.reads("aag 2 1 0 0 1\n2\n4 4 2\n", "fault 6 at 2");
        checks.reads("aag 2 0 0 0 2\n2 4 0\n4 2 0\n", "fault 6 at 1");
        checks.reads("aag 2 0 0 0 2\n2 4 0\n4 0 0\n", "ands 2");
        // Through a latch there is no loop.
        checks.reads("aag 1 0 1 0 0\n2 2\n", "ands 0");
        checks.reads("aag 2 0 1 0 1\n2 4\n4 2 2\n", "ands 1");
        // Two ways to the same and are no loop.
        checks.reads("aag 4 0 0 0 4\n2 4 6\n4 8 8\n6 8 9\n8 0 1\n", "ands 4");
    }

    private static void lowestOnLoop() {
        checks.sentence("the lowest variable from which one comes, through operands, to itself again");
        checks.reads("aag 3 0 0 0 3\n6 4 1\n4 6 1\n2 4 1\n", "fault 6 at 2");
        checks.reads("aag 5 0 0 0 5\n2 8 4\n4 10 1\n10 6 1\n6 8 1\n8 7 1\n", "fault 6 at 3");
        checks.reads("aag 5 0 0 0 5\n10 10 1\n8 6 1\n6 8 1\n2 8 10\n4 2 2\n", "fault 6 at 3");
        checks.reads("aag 4 0 0 0 4\n8 8 0\n6 6 0\n4 8 6\n2 4 0\n", "fault 6 at 3");
        // From 3 one comes to 1, but from 1 not to itself.
        checks.reads("aag 4 0 0 0 4\n6 2 6\n2 4 1\n4 8 1\n8 8 8\n", "fault 6 at 3");
        checks.reads("aag 400 0 0 0 3\n2 800 1\n4 800 1\n800 4 1\n", "fault 6 at 2");
        checks.reads("aag 400 0 0 0 1\n800 800 800\n", "fault 6 at 400");
        // The place is the variable, wherever its line stands.
        checks.reads("aag 3 0 0 0 3\n4 0 0\n6 0 0\n2 2 2\n", "fault 6 at 1");
    }

    private static void longestLoops() {
        checks.sentence("(its number in place of a byte)");
        StringBuilder ring = new StringBuilder("aag 400 0 0 0 300\n");
        for (int v = 400; v > 100; v--) {
            ring.append(2 * v).append(v == 101 ? " 800" : " " + (2 * v - 2)).append(" 1\n");
        }
        checks.reads(ring.toString(), "fault 6 at 101");
        StringBuilder tail = new StringBuilder("aag 400 0 0 0 300\n");
        for (int v = 101; v <= 400; v++) {
            tail.append(2 * v).append(v == 400 ? " 800" : " " + (2 * v + 2)).append(" 1\n");
        }
        checks.reads(tail.toString(), "fault 6 at 400");
        // Every and hangs on the two behind it, the last ones on one another.
        StringBuilder mesh = new StringBuilder("aag 300 0 0 0 300\n");
        for (int v = 1; v <= 300; v++) {
            mesh.append(2 * v).append(' ').append(2 * Math.min(300, v + 1)).append(' ');
            mesh.append(v == 300 ? 598 : 2 * Math.min(300, v + 2)).append('\n');
        }
        checks.reads(mesh.toString(), "fault 6 at 299");
    }

    private static void loopsOnlyWithoutThese() {
        checks.sentence("Without these: 6");
        checks.reads("aag 3 1 0 1 1\n2\n2\n4 4 2\n", "fault 6 at 2");
        checks.reads("aag 3 1 0 1 1\n2\n2\n4 4 6\n", "fault 5 at 22");
        checks.reads("aag 3 1 0 1 1\n2\n6\n4 4 4\n", "fault 5 at 16");
        checks.reads("aag 3 1 0 1 1\n2\n2\n4 4 8\n", "fault 3 at 22");
        checks.reads("aag 3 1 0 1 1\n2\n2\n4 4 2\nx", "fault 1 at 24");
        checks.reads("aag 4 1 0 1 2\n2\n2\n4 4 2\n4 2 2\n", "fault 4 at 24");
    }
}
