import java.util.regex.Matcher;
import java.util.regex.Pattern;

/** The document's terms but for the faults' own places: each sentence with a boundary case, one by one. */
public final class TermsTest {
    private static final int NONE = CircuitFiles.NONE;
    private static final Checks checks = new Checks();

    private TermsTest() {
    }

    public static void main(String[] args) {
        variables();
        oneKindAtMost();
        literals();
        numbers();
        lines();
        blanks();
        textFirstLine();
        textLines();
        binaryFirstLine();
        binaryVariables();
        binaryLines();
        deltasOfOneToThreeBytes();
        sevenBitsEach();
        operands();
        anyNumberOfSymbols();
        kindsOfSymbols();
        namesOf1To40Bytes();
        bytesOfNames();
        symbolsFrom0On();
        symbolsAtMostOnce();
        fileEnds();
        comment();
        order();
        orderOfFewAndMany();
        checks.finish();
    }

    private static void variables() {
        checks.sentence("A CIRCUIT has variables 1 .. M");
        Bench none = new Bench();
        checks.same("M = 0", none.read("aag 0 0 0 0 0\n"), "ands 0");
        checks.same("M = 0: value(2)", none.call().value(2, -1), NONE);
        Bench most = new Bench();
        checks.same("M = 400", most.read("aag 400 2 0 0 0\n800\n2\n"), "ands 0");
        checks.same("M = 400: variable 1", most.call().value(2, 2), 1);
        checks.same("M = 400: variable 400", most.call().value(800, 1), 1);
        checks.same("M = 400: variable 401", most.call().value(802, -1), NONE);
        checks.reads("aag 400 1 0 0 0\n802\n", "fault 3 at 16");
        checks.reads("aag 401 1 0 0 0\n802\n", "fault 2 at 16");
    }

    private static void oneKindAtMost() {
        checks.sentence("some of which are INPUTS, LATCHES, ANDS (each one of these at most)");
        String[] counts = {"1 0 0 0", "0 1 0 0", "0 0 0 1"};
        String[] lines = {"800\n", "800 0\n", "800 0 0\n"};
        for (int kind = 0; kind < 3; kind++) {
            checks.reads("aag 400 " + counts[kind] + "\n" + lines[kind], kind == 2 ? "ands 1" : "ands 0");
        }
        checks.reads("aag 400 1 1 0 0\n800\n800 0\n", "fault 4 at 20");
        checks.reads("aag 400 1 0 0 1\n800\n800 0 0\n", "fault 4 at 20");
        checks.reads("aag 400 0 1 0 1\n800 0\n800 0 0\n", "fault 4 at 22");
        checks.reads("aag 400 0 0 0 0\n", "ands 0");
    }

    private static void literals() {
        checks.sentence("A LITERAL is 0 or 1, the constants, or 2 * v, a variable, or 2 * v + 1, its negation.");
        Bench x = new Bench();
        checks.same("outputs of each sort", x.read("aag 400 2 0 6 0\n2\n800\n0\n1\n2\n3\n800\n801\n"), "ands 0");
        checks.same("both inputs 0", x.call().step(0), 0b101010);
        checks.same("both inputs 1", x.call().step(3), 0b010110);
        checks.same("input 1 alone", x.call().step(2), 0b011010);
        checks.reads("aag 0 0 1 0 0\n", "fault 2 at 14");
        checks.reads("aag 1 0 1 2 1\n", "fault 2 at 14");
        checks.reads("aag 2 0 1 2 1\n2 1\n0\n1\n4 0 1\n", "ands 1");
    }

    private static void numbers() {
        checks.sentence("a NUMBER is written in decimal digits, at most four, without a 0 ahead of others");
        for (String file : new String[] {Samples.TEXT, Samples.BINARY}) {
            Matcher number = Pattern.compile("[0-9]+").matcher(file);
            while (number.find()) {
                String before = file.substring(0, number.start());
                String behind = file.substring(number.end());
                int at = number.start();
                checks.reads(before + behind, "fault 1 at " + at);
                checks.reads(before + "0" + number.group() + behind, "fault 1 at " + (at + 1));
                checks.reads(before + "00" + behind, "fault 1 at " + (at + 1));
                checks.reads(before + "0000" + behind, "fault 1 at " + (at + 1));
                checks.reads(before + "10000" + behind, "fault 1 at " + (at + 4));
                checks.reads(before + "99999999999" + behind, "fault 1 at " + (at + 4));
                for (String odd : new String[] {"/", ":", "-1", "+1", "a", "\0", "\u00b2", "\u00ff"}) {
                    checks.reads(before + odd + behind, "fault 1 at " + at);
                }
            }
        }
        // Four digits are a number: it is only too great.
        checks.reads("aag 9999 0 0 0 0\n", "fault 2 at 17");
        checks.reads("aag 1000 0 0 0 0\n", "fault 2 at 17");
        checks.reads("aag 400 1 0 0 0\n1000\n", "fault 3 at 16");
        checks.reads("aag 400 1 0 0 0\n9999\n", "fault 3 at 16");
        checks.reads("aag 1 1 0 0 0\n2\ni9999 x\n", "fault 1 at 21");
        checks.reads("aag 100 3 0 1 0\n2\n10\n100\n0\n", "ands 0");
    }

    private static void lines() {
        checks.sentence("a LINE ends with a byte 10");
        for (String file : new String[] {Samples.TEXT, Samples.BINARY}) {
            // Within a symbol's line another byte belongs to the name: only lines ahead of it.
            for (int at = file.indexOf('\n'); at < file.indexOf("o0"); at = file.indexOf('\n', at + 1)) {
                for (String odd : new String[] {"\r\n", "\r", "\13", "\t", "\0", "\u008a", " \n"}) {
                    checks.reads(file.substring(0, at) + odd + file.substring(at + 1), "fault 1 at " + at);
                }
            }
            checks.endsTooEarly(file.substring(0, file.length() - 1));
            checks.reads(file + "\n", "fault 1 at " + file.length());
        }
    }

    private static void blanks() {
        checks.sentence("BLANKS are single bytes 32");
        for (String file : new String[] {Samples.TEXT, Samples.BINARY}) {
            for (int at = file.indexOf(' '); at >= 0; at = file.indexOf(' ', at + 1)) {
                for (String odd : new String[] {"\t", "\n", "\0", "_", "\u00a0"}) {
                    checks.reads(file.substring(0, at) + odd + file.substring(at + 1), "fault 1 at " + at);
                }
                // Behind a symbol's number a second blank is the name's first byte.
                boolean named = at > file.indexOf("o0");
                checks.reads(file.substring(0, at) + " " + file.substring(at),
                    named ? "ands 1" : "fault 1 at " + (at + 1));
            }
        }
        checks.reads(" aag 0 0 0 0 0\n", "fault 1 at 0");
        checks.reads("aag 0 0 0 0 0 \n", "fault 1 at 13");
        checks.reads("aag 1 1 0 0 0\n 2\n", "fault 1 at 14");
        checks.reads("aag 1 1 0 0 0\n2 \n", "fault 1 at 15");
    }

    private static void textFirstLine() {
        checks.sentence("TEXT: \"aag M I L O A\", each behind a blank, and the line's end");
        checks.reads("aag 0 0 0 0 0\n", "ands 0");
        checks.reads("aag\n", "fault 1 at 3");
        checks.reads("aag 0\n", "fault 1 at 5");
        checks.reads("aag 0 0 0 0\n", "fault 1 at 11");
        checks.reads("aag 0 0 0 0 0 0\n", "fault 1 at 13");
        checks.reads("AAG 0 0 0 0 0\n", "fault 1 at 0");
        checks.reads("aAg 0 0 0 0 0\n", "fault 1 at 1");
        checks.reads("aaG 0 0 0 0 0\n", "fault 1 at 2");
        checks.reads("aagg 0 0 0 0 0\n", "fault 1 at 3");
    }

    private static void textLines() {
        checks.sentence("Then I lines with a literal: the input it DEFINES; L lines with two, a blank between");
        linesOf("aag 400 6 0 0 0\n", new String[] {"2\n", "4\n", "6\n", "8\n", "10\n", "800\n"});
        linesOf("aag 400 0 7 0 0\n",
            new String[] {"2 1\n", "4 0\n", "6 800\n", "8 801\n", "10 2\n", "12 3\n", "800 800\n"});
        checks.sentence("O lines with one: the output; A lines with three, blanks between");
        linesOf("aag 400 0 0 8 0\n", new String[] {"0\n", "1\n", "0\n", "0\n", "0\n", "0\n", "0\n", "1\n"});
        linesOf("aag 400 0 0 0 3\n", new String[] {"800 0 0\n", "2 800 801\n", "4 0 1\n"});
        checks.reads(Samples.longest(), "ands 300");
    }

    /** A file is sound with all its lines, and told as too short or too long with others. */
    private static void linesOf(String firstLine, String[] lines) {
        String file = firstLine;
        for (String line : lines) {
            checks.endsTooEarly(file);
            checks.endsTooEarly(file + line.substring(0, line.length() - 1));
            checks.reads(file + "\n", "fault 1 at " + file.length());
            checks.reads(file + "c\n", "fault 1 at " + file.length());
            file += line;
        }
        checks.same(Checks.shown(file), new Bench().read(file).substring(0, 4), "ands");
        checks.reads(file + "14\n", "fault 1 at " + file.length());
    }

    private static void binaryFirstLine() {
        checks.sentence("BINARY: \"aig M I L O A\" likewise.");
        checks.reads("aig 0 0 0 0 0\n", "ands 0");
        checks.reads("aig 0 0 0 0\n", "fault 1 at 11");
        checks.reads("aig 0 0 0 0 0 0\n", "fault 1 at 13");
        checks.reads("aIg 0 0 0 0 0\n", "fault 1 at 1");
        checks.reads("ai 0 0 0 0 0\n", "fault 1 at 2");
        checks.reads("iag 0 0 0 0 0\n", "fault 1 at 0");
    }

    private static void binaryVariables() {
        checks.sentence("The inputs are the variables 1 .. I, the latches the L next ones, the ands the A next ones.");
        textOfBinary("aig 6 6 0 0 0\n", "aag 6 6 0 0 0\n2\n4\n6\n8\n10\n12\n");
        textOfBinary("aig 7 0 7 0 0\n0\n1\n2\n3\n14\n15\n6\n",
            "aag 7 0 7 0 0\n2 0\n4 1\n6 2\n8 3\n10 14\n12 15\n14 6\n");
        textOfBinary("aig 2 0 0 0 2\n\1\0\1\3", "aag 2 0 0 0 2\n2 1 1\n4 3 0\n");
        textOfBinary("aig 3 1 1 0 1\n6\n\1\4", "aag 3 1 1 0 1\n2\n4 6\n6 5 1\n");
        textOfBinary("aig 0 0 0 2 0\n1\n0\n", "aag 0 0 0 2 0\n1\n0\n");
    }

    private static void textOfBinary(String file, String text) {
        checks.same("text of " + Checks.shown(file), Bench.longForm(file, false), text);
    }

    private static void binaryLines() {
        checks.sentence("Then L lines with a literal (next), O lines with one; then for each and two DELTAS");
        String file = "aig 9 1 7 8 1\n";
        for (int line = 0; line < 15; line++) {
            checks.endsTooEarly(file);
            checks.endsTooEarly(file + "19");
            checks.reads(file + "20\n", "fault 3 at " + file.length());
            file += "19\n";
        }
        checks.endsTooEarly(file);
        checks.endsTooEarly(file + "\22");
        checks.reads(file + "\22\0", "ands 1");
        checks.reads(file + "\22\0\0", "fault 1 at " + (file.length() + 2));
        checks.reads("aig 0 0 0 0 0\n\0", "fault 1 at 14");
    }

    private static void deltasOfOneToThreeBytes() {
        checks.sentence("two DELTAS, of one to three bytes");
        String start = "aig 3 2 0 0 1\n";
        String text = "aag 3 2 0 0 1\n2\n4\n6 5 3\n";
        String[] ones = {"\1", "\u0081\0", "\u0081\u0080\0"};
        String[] twos = {"\2", "\u0082\0", "\u0082\u0080\0"};
        for (String one : ones) {
            for (String two : twos) {
                textOfBinary(start + one + two, text);
                textOfBinary(start + one + two + "c\n", text);
                for (int cut = 0; cut < one.length() + two.length(); cut++) {
                    checks.endsTooEarly(start + (one + two).substring(0, cut));
                }
            }
        }
        checks.reads(start + "\u0081\u0080\u0080\0\2", "fault 1 at 17");
        checks.reads(start + "\1\u0082\u0080\u0080\0", "fault 1 at 18");
    }

    private static void sevenBitsEach() {
        checks.sentence("seven bits each, the lowest first, 128 added if another byte follows");
        // And 300 of 300: its literal is 600.
        String ands = "aig 300 0 0 0 300\n" + "\1\0".repeat(299);
        checks.same("deltas of 127, 128", lastLine(ands + "\u007f\u0080\1"), "600 473 345\n");
        checks.same("deltas of 128, 127", lastLine(ands + "\u0080\1\u007f"), "600 472 345\n");
        checks.same("deltas of 129, 255", lastLine(ands + "\u0081\1\u00ff\1"), "600 471 216\n");
        checks.same("deltas of 256, 344", lastLine(ands + "\u0080\2\u00d8\2"), "600 344 0\n");
        checks.same("deltas of 600, 0", lastLine(ands + "\u00d8\4\0"), "600 0 0\n");
        checks.same("deltas of 1, 599", lastLine(ands + "\1\u00d7\4"), "600 599 0\n");
        int at = ands.length();
        checks.reads(ands + "\u00d9\4\0", "fault 3 at " + at);
        checks.reads(ands + "\u00ff\u007f\0", "fault 3 at " + at);
        checks.reads(ands + "\u0081\u0080\1\0", "fault 3 at " + at);
        checks.reads(ands + "\u00ff\u00ff\u007f\0", "fault 3 at " + at);
        checks.reads(ands + "\1\u00d8\4", "fault 3 at " + (at + 1));
        checks.reads(ands + "\1\u0080\u0080\1", "fault 3 at " + (at + 1));
        // Bytes that would be something elsewhere are deltas here.
        checks.same("a line's end and a blank", lastLine(ands + "\12 "), "600 590 558\n");
        checks.same("an i and a c", lastLine(ands + "ic"), "600 495 396\n");
        checks.same("digits", lastLine(ands + "09"), "600 552 495\n");
    }

    private static String lastLine(String file) {
        String text = Bench.longForm(file, false);
        return text.substring(text.lastIndexOf('\n', text.length() - 2) + 1);
    }

    private static void operands() {
        checks.sentence("the and's literal 2 * v less the first delta is the first operand, "
            + "this less the second delta the second one");
        textOfBinary("aig 2 1 0 0 1\n\1\0", "aag 2 1 0 0 1\n2\n4 3 3\n");
        textOfBinary("aig 2 1 0 0 1\n\1\3", "aag 2 1 0 0 1\n2\n4 3 0\n");
        textOfBinary("aig 2 1 0 0 1\n\4\0", "aag 2 1 0 0 1\n2\n4 0 0\n");
        textOfBinary("aig 2 1 0 0 1\n\2\1", "aag 2 1 0 0 1\n2\n4 2 1\n");
        checks.reads("aig 2 1 0 0 1\n\0\0", "fault 3 at 14");
        checks.reads("aig 2 1 0 0 1\n\5\0", "fault 3 at 14");
        checks.reads("aig 2 1 0 0 1\n\1\4", "fault 3 at 15");
        checks.reads("aig 2 1 0 0 1\n\4\1", "fault 3 at 15");
    }

    private static void anyNumberOfSymbols() {
        checks.sentence("Then, in both, any number of SYMBOLS");
        String[] starts = {"aag 13 6 7 8 0\n2\n4\n6\n8\n10\n12\n" + "14 0\n16 0\n18 0\n20 0\n22 0\n24 0\n26 0\n"
            + "0\n".repeat(8), "aig 13 6 7 8 0\n" + "0\n".repeat(15)};
        for (String start : starts) {
            String file = start;
            checks.reads(file, "ands 0");
            for (int k = 7; k >= 0; k--) {
                file += "o" + k + " n\n" + (k < 7 ? "l" + k + " n\n" : "") + (k < 6 ? "i" + k + " n\n" : "");
                checks.reads(file, "ands 0");
                checks.reads(file + "c\n", "ands 0");
                checks.reads(file + "x\n", "fault 1 at " + file.length());
            }
            for (String again : new String[] {"i0", "i5", "l0", "l6", "o0", "o7"}) {
                checks.reads(file + again + " n\n", "fault 1 at " + (file.length() + 2));
            }
        }
        checks.reads(Samples.BINARY, "ands 1");
        checks.reads("aig 3 1 1 1 1\n7\n6\n\2\2", "ands 1");
    }

    private static void kindsOfSymbols() {
        checks.sentence("i, l or o, a number k, a blank, a name");
        String start = "aag 2 1 1 1 0\n2\n4 4\n2\n";
        for (int b = 0; b < 256; b++) {
            boolean kind = "ilo".indexOf(b) >= 0;
            int at = start.length() + (b == 'c' ? 1 : 0);
            checks.reads(start + (char) b + "0 x\n", kind ? "ands 0" : "fault 1 at " + at);
        }
    }

    private static void namesOf1To40Bytes() {
        checks.sentence("a name of 1 to 40 bytes other than 10, the line's end");
        String[] starts = {"aag 2 1 1 1 0\n2\n4 4\n2\n", "aig 2 1 1 1 0\n4\n2\n"};
        for (String start : starts) {
            for (String symbol : new String[] {"i0 ", "l0 ", "o0 "}) {
                int at = start.length() + 3;
                checks.reads(start + symbol + "\n", "fault 1 at " + at);
                checks.reads(start + symbol + "n\n", "ands 0");
                checks.reads(start + symbol + "n".repeat(39) + "\n", "ands 0");
                checks.reads(start + symbol + "n".repeat(40) + "\n", "ands 0");
                checks.reads(start + symbol + "n".repeat(41) + "\n", "fault 1 at " + (at + 40));
                checks.reads(start + symbol + "n".repeat(100) + "\n", "fault 1 at " + (at + 40));
                checks.endsTooEarly(start + symbol + "n".repeat(39));
                checks.endsTooEarly(start + symbol + "n".repeat(40));
            }
        }
    }

    private static void bytesOfNames() {
        checks.sentence("bytes other than 10");
        for (int first = 0; first < 256; first += 32) {
            StringBuilder name = new StringBuilder();
            for (int b = first; b < first + 32; b++) {
                name.append(b == 10 ? "" : "" + (char) b);
            }
            Bench x = new Bench();
            checks.same("bytes from " + first, x.read("aag 1 1 0 0 0\n2\ni0 " + name + "\n"), "ands 0");
            checks.same("bytes from " + first, x.name(0, 0), name.toString());
        }
        Bench x = new Bench();
        checks.same("a 10 ends the name", x.read("aag 1 1 0 1 0\n2\n0\ni0 ab\no0 c\n"), "ands 0");
        checks.same("a 10 ends the name", x.name(0, 0), "ab");
        checks.same("a name that looks like a comment", x.name(2, 0), "c");
    }

    private static void symbolsFrom0On() {
        checks.sentence("of input, latch or output k (from 0 on)");
        String start = "aig 13 6 7 8 0\n" + "0\n".repeat(15);
        int[] counts = {6, 7, 8};
        for (int kind = 0; kind < 3; kind++) {
            for (int k = 0; k < 12; k++) {
                String symbol = "ilo".charAt(kind) + "" + k;
                checks.reads(start + symbol + " x\n",
                    k < counts[kind] ? "ands 0" : "fault 1 at " + (start.length() + symbol.length()));
            }
            checks.reads("aag 0 0 0 0 0\n" + "ilo".charAt(kind) + "0 x\n", "fault 1 at 16");
        }
        Bench x = new Bench();
        checks.same("the first and the last", x.read(start + "o7 h\no0 a\nl6 g\ni5 f\n"), "ands 0");
        checks.same("the first and the last", x.name(2, 0) + x.name(2, 7) + x.name(1, 6) + x.name(0, 5), "ahgf");
    }

    private static void symbolsAtMostOnce() {
        checks.sentence("for each at most once");
        String start = "aag 4 2 2 2 0\n2\n4\n6 6\n8 8\n2\n2\n";
        checks.reads(start + "i0 x\ni1 x\nl0 x\nl1 x\no0 x\no1 x\n", "ands 0");
        for (String symbol : new String[] {"i0", "i1", "l0", "l1", "o0", "o1"}) {
            String once = start + symbol + " x\n";
            checks.reads(once, "ands 0");
            checks.reads(once + symbol + " x\n", "fault 1 at " + (once.length() + 2));
            checks.reads(once + symbol, "fault 1 at " + (once.length() + 2));
            checks.reads(once + "c\n" + symbol + " x\n", "ands 0");
        }
        Bench x = new Bench();
        for (int times = 0; times < 3; times++) {
            checks.same("once in each file", x.read(start + "o1 x\n"), "ands 0");
        }
    }

    private static void fileEnds() {
        checks.sentence("Then the file ends");
        for (String file : new String[] {Samples.TEXT, Samples.BINARY, "aag 0 0 0 0 0\n"}) {
            checks.reads(file, file.startsWith("aag 0") ? "ands 0" : "ands 1");
            for (String more : new String[] {"\n", "\0", " ", "0", "C\n", "a", file}) {
                checks.reads(file + more, "fault 1 at " + file.length());
            }
        }
    }

    private static void comment() {
        checks.sentence("or a line \"c\" comes, behind which there may be anything");
        StringBuilder allBytes = new StringBuilder();
        for (int b = 0; b < 256; b++) {
            allBytes.append((char) b);
        }
        for (String file : new String[] {Samples.TEXT, Samples.BINARY}) {
            for (String more : new String[] {"", "\n", "c", "x", file, "o0 y\n", "q".repeat(41), allBytes.toString()}) {
                checks.reads(file + "c\n" + more, "ands 1");
            }
            checks.endsTooEarly(file + "c");
            for (String more : new String[] {"c\n", " \n", "\r\n", "0 x\n", "\0"}) {
                checks.reads(file + "c" + more, "fault 1 at " + (file.length() + 1));
            }
        }
        Bench x = new Bench();
        checks.same("a symbol in a comment", x.read("aag 1 1 0 0 0\n2\nc\ni0 x\n"), "ands 0");
        checks.same("a symbol in a comment", x.name(0, 0), "");
        Bench full = new Bench();
        checks.same("a tape that is full", full.put("aag 0 0 0 0 0\nc\n" + "\0".repeat(5984)), 6000);
        checks.same("a tape that is full", full.load(), "ands 0");
    }

    private static void order() {
        checks.sentence("again and again the first one by the file that has not come yet, "
            + "and whose operands are constants, inputs, latches or ands that have come");
        binaryOf("aag 4 1 1 0 2\n2\n4 0\n8 2 4\n6 0 1\n", "aig 4 1 1 0 2\n0\n\2\2\7\1");
        binaryOf("aag 2 0 0 0 2\n2 0 5\n4 1 1\n", "aig 2 0 0 0 2\n\1\0\1\3");
        binaryOf("aag 2 0 0 0 2\n2 5 0\n4 1 1\n", "aig 2 0 0 0 2\n\1\0\1\3");
        // 2 waits for 4; when that has come, 2 comes ahead of 6, which was ready all the time.
        binaryOf("aag 3 0 0 3 3\n2\n4\n6\n2 4 1\n4 1 1\n6 1 0\n", "aig 3 0 0 3 3\n4\n2\n6\n\1\0\2\1\5\1");
        // 2 waits for 8 and 6, which come as 6, 8.
        binaryOf("aag 4 0 0 4 4\n2\n4\n6\n8\n2 8 6\n4 2 2\n6 0 0\n8 1 1\n",
            "aig 4 0 0 4 4\n6\n8\n2\n4\n\2\0\3\0\2\2\2\0");
    }

    private static void binaryOf(String file, String binary) {
        checks.same("binary of " + Checks.shown(file), Bench.longForm(file, true), binary);
    }

    private static void orderOfFewAndMany() {
        checks.sentence("ORDER of ands");
        binaryOf("aag 3 1 1 0 0\n6\n2 6\n", "aig 2 1 1 0 0\n2\n");
        binaryOf("aag 1 0 0 1 1\n3\n2 0 0\n", "aig 1 0 0 1 1\n3\n\2\0");
        for (int ands : new int[] {1, 2, 299, 300}) {
            StringBuilder deltas = new StringBuilder();
            for (int v = 2; v < ands + 2; v++) {
                // The operands are 2 * v - 1 and 1.
                deltas.append((char) 1).append(delta(2 * v - 2));
            }
            binaryOf(Samples.chainFromItsEnd(ands),
                "aig " + (ands + 1) + " 1 0 1 " + ands + "\n" + (2 * ands + 2) + "\n" + deltas);
        }
    }

    private static String delta(int delta) {
        return delta < 128 ? "" + (char) delta : "" + (char) (128 + delta % 128) + (char) (delta / 128);
    }
}
