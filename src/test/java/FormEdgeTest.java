import java.util.ArrayList;
import java.util.List;

/** The boundary cases of NUMBER, LINE and CIRCUIT: what load takes and refuses by its form. */
final class FormEdgeTest {
    /**
     * No line of a latch has a number of two digits: whatever blank or newline is put in, taken
     * out or changed for the other, no circuit is left.
     */
    private static final String BASE =
            "aag 12 2 2 1 2\n2\n24\n4 8 1\n6 9\n9\n8 2 5\n10 8 6\n";

    public static void main(String[] args) {
        Loads.takes(BASE, 2);
        emptyTextAndEveryBeginning();
        nothingStandsBehind();
        theWordAtTheFront();
        blanksAndNewlines();
        otherCharacters();
        zeroAtTheFront();
        ninetyNine();
        numbersOfTheHeader();
        numbersOfOtherLines();
        linesThatAreMuchTooLong();
        linesOfEachKind();
        firstValues();
        textIsEmptyThen();
        Check.end("FormEdgeTest");
    }

    /** "exactly": all that a circuit begins with is none; a load that is refused reads on later. */
    private static void emptyTextAndEveryBeginning() {
        Loads.noCircuit("");
        CircuitProver x = new CircuitProver();
        for (int k = 0; k < BASE.length(); k++) {
            Check.same("load of the first " + k, Check.load(x), Loads.NO_CIRCUIT);
            Check.same("length", x.length(), k);
            Check.same("the next character", x.type(BASE.charAt(k)), true);
        }
        Check.same("load of all", Check.load(x), "2");
        Check.same("length", x.length(), 0);
        Check.same("A", x.circuit(4), 2);
    }

    /** "exactly": with any one character behind it, it is no circuit. */
    private static void nothingStandsBehind() {
        for (char letter = 32; letter <= 126; letter++) {
            CircuitProver x = new CircuitProver();
            Check.typeAll(x, BASE + letter);
            Check.same("load with " + letter + " behind", Check.load(x), Loads.NO_CIRCUIT);
            Check.same("length", x.length(), BASE.length() + 1);
        }
        Loads.noCircuit(BASE + "\n");
        Loads.noCircuit(BASE + BASE);
        Loads.noCircuit(BASE + "c\n");
    }

    /** "aag, a blank, and a line". */
    private static void theWordAtTheFront() {
        String rest = BASE.substring(3);
        for (String word : new String[] {"", "a", "ag", "aa", "aagg", "aaag", "aig", "aga", "gaa",
            "AAG", "Aag", "aaG", "bag", "abg", "aah", "\naag", " aag", "aag ", "aag\n"}) {
            Loads.noCircuit(word + rest);
        }
        Loads.noCircuit("aag" + BASE.substring(4));
        Loads.noCircuit("aag\n" + BASE.substring(4));
        Loads.noCircuit("aag0" + BASE.substring(4));
    }

    /** "NUMBERS with one blank between each two, and a newline". */
    private static void blanksAndNewlines() {
        for (int k = 0; k < BASE.length(); k++) {
            String front = BASE.substring(0, k);
            refusedOnce(front + " " + BASE.substring(k));
            refusedOnce(front + "\n" + BASE.substring(k));
            char letter = BASE.charAt(k);
            if (letter == ' ' || letter == '\n') {
                refusedOnce(front + BASE.substring(k + 1));
                refusedOnce(front + (letter == ' ' ? '\n' : ' ') + BASE.substring(k + 1));
                refusedOnce(front + "_" + BASE.substring(k + 1));
            }
        }
    }

    private static void refusedOnce(String text) {
        CircuitProver x = Check.loaded("aag 0 0 0 1 0\n1\n");
        Check.same("typing", Check.typeAll(x, text), true);
        Check.same("load of " + text.replace("\n", "\\n"), Check.load(x), Loads.NO_CIRCUIT);
        Check.same("length then", x.length(), text.length());
        Check.same("M then", x.circuit(0), 0);
        Check.same("depth then", x.depth(), 0);
    }

    /** "any others may be typed", but a circuit has digits: '/' and ':' are beside them. */
    private static void otherCharacters() {
        for (char letter : "/:+-.,;xXaO!~\"".toCharArray()) {
            for (int k = 4; k < BASE.length(); k++) {
                refusedOnce(BASE.substring(0, k) + letter + BASE.substring(k));
                refusedOnce(BASE.substring(0, k) + letter + BASE.substring(k + 1));
            }
        }
    }

    private static List<String> parts(String text) {
        List<String> all = new ArrayList<>();
        int from = 0;
        for (int k = 0; k < text.length(); k++) {
            if (text.charAt(k) == ' ' || text.charAt(k) == '\n') {
                all.add(text.substring(from, k));
                all.add(text.substring(k, k + 1));
                from = k + 1;
            }
        }
        return all;
    }

    /** The text with one of its numbers changed for another word. */
    private static String changed(String text, int number, String word) {
        List<String> all = parts(text);
        all.set(2 + 2 * number, word);
        return String.join("", all);
    }

    private static int numbers(String text) {
        return parts(text).size() / 2 - 1;
    }

    /** "without a 0 at its front (0 is one 0)". */
    private static void zeroAtTheFront() {
        for (int k = 0; k < numbers(BASE); k++) {
            String number = parts(BASE).get(2 + 2 * k);
            Check.same("the change of number " + k, changed(BASE, k, number), BASE);
            refusedOnce(changed(BASE, k, "0" + number));
            refusedOnce(changed(BASE, k, "00" + number));
            refusedOnce(changed(BASE, k, ""));
        }
        Loads.takes("aag 0 0 0 1 0\n0\n", 0);
        for (int k = 0; k < 6; k++) {
            Loads.noCircuit(changed("aag 0 0 0 1 0\n0\n", k, k == 3 ? "01" : "00"));
        }
        Loads.takes("aag 1 0 1 1 0\n2 0 0\n0\n", 1);
        Loads.noCircuit("aag 1 0 1 1 0\n2 00 0\n0\n");
        Loads.noCircuit("aag 1 0 1 1 0\n2 0 00\n0\n");
        Loads.noCircuit("aag 1 0 1 1 0\n2 0 01\n0\n");
        Loads.takes("aag 1 0 0 1 1\n2\n2 0 1\n", 0);
        Loads.noCircuit("aag 1 0 0 1 1\n2\n2 00 1\n");
        Loads.noCircuit("aag 1 0 0 1 1\n2\n2 0 01\n");
        Loads.takes("aag 9 0 0 1 0\n0\n", 0);
        Loads.takes("aag 10 0 0 1 0\n0\n", 0);
        Loads.noCircuit("aag 09 0 0 1 0\n0\n");
        Loads.noCircuit("aag 010 0 0 1 0\n0\n");
    }

    /** "and is at most 99": also where many more digits would come round to a small number. */
    private static void ninetyNine() {
        Loads.takes("aag 98 0 0 1 0\n0\n", 0);
        Loads.takes("aag 99 0 0 1 0\n0\n", 0);
        Loads.takes("aag 99 1 1 1 1\n94\n96 99\n98\n98 97 95\n", 1);
        for (int k = 0; k < numbers(BASE); k++) {
            for (String word : new String[] {"100", "101", "999", "1000", "256", "4294967297",
                "4294967298", "18446744073709551618"}) {
                refusedOnce(changed(BASE, k, word));
            }
        }
        Loads.noCircuit("aag 100 0 0 1 0\n0\n");
        Loads.noCircuit("aag 99 1 0 1 0\n100\n0\n");
        Loads.noCircuit("aag 99 1 0 1 0\n98\n100\n");
        Loads.noCircuit("aag 99 0 1 1 0\n100 0\n0\n");
        Loads.noCircuit("aag 99 0 1 1 0\n98 100\n0\n");
        Loads.noCircuit("aag 99 0 0 1 1\n0\n100 0 0\n");
    }

    /** "a line of five numbers". */
    private static void numbersOfTheHeader() {
        Loads.noCircuit("aag \n0\n");
        Loads.noCircuit("aag 0\n0\n");
        Loads.noCircuit("aag 0 0 0 1\n0\n");
        Loads.takes("aag 0 0 0 1 0\n0\n", 0);
        Loads.noCircuit("aag 0 0 0 1 0 0\n0\n");
        Loads.noCircuit("aag 0 0 0 1 0 0 0 0 0\n0\n");
    }

    /** "lines of one number", "of two or three", "of one", "of three". */
    private static void numbersOfOtherLines() {
        Loads.noCircuit("aag 1 1 0 1 0\n\n0\n");
        Loads.takes("aag 1 1 0 1 0\n2\n0\n", 0);
        Loads.noCircuit("aag 1 1 0 1 0\n2 0\n0\n");
        Loads.noCircuit("aag 1 0 1 1 0\n\n0\n");
        Loads.noCircuit("aag 1 0 1 1 0\n2\n0\n");
        Loads.takes("aag 1 0 1 1 0\n2 0\n0\n", 1);
        Loads.takes("aag 1 0 1 1 0\n2 0 0\n0\n", 1);
        Loads.noCircuit("aag 1 0 1 1 0\n2 0 0 0\n0\n");
        Loads.noCircuit("aag 1 0 1 1 0\n2 0 0 0 0\n0\n");
        Loads.noCircuit("aag 0 0 0 1 0\n\n");
        Loads.takes("aag 0 0 0 1 0\n1\n", 0);
        Loads.noCircuit("aag 0 0 0 1 0\n1 1\n");
        Loads.noCircuit("aag 1 0 0 1 1\n0\n\n");
        Loads.noCircuit("aag 1 0 0 1 1\n0\n2\n");
        Loads.noCircuit("aag 1 0 0 1 1\n0\n2 0\n");
        Loads.takes("aag 1 0 0 1 1\n0\n2 0 0\n", 0);
        Loads.noCircuit("aag 1 0 0 1 1\n0\n2 0 0 0\n");
        Loads.noCircuit("aag 1 0 0 1 1\n0\n2 0 0 0 0\n");
    }

    /** The numbers behind the fifth one do not make a line of their own. */
    private static void linesThatAreMuchTooLong() {
        for (int more = 1; more <= 12; more++) {
            String zeros = " 0".repeat(more);
            Loads.noCircuit("aag 0 0 0 1 0" + zeros + "\n");
            Loads.noCircuit("aag 1 1 0 1 0\n2" + zeros + "\n");
            Loads.noCircuit("aag 1 0 1 1 0\n2 0 0" + zeros + "\n");
            Loads.noCircuit("aag 0 0 0 1 0\n0" + zeros + "\n");
            Loads.noCircuit("aag 1 0 0 1 1\n0" + zeros + "\n2 0 0\n");
            Loads.noCircuit("aag 2 0 0 1 2\n0\n2 0 0" + zeros + " 4 0 0\n");
        }
    }

    /** "I lines .. L lines .. O lines .. A lines": one less, as many, one more. */
    private static void linesOfEachKind() {
        for (int lines = 0; lines <= 3; lines++) {
            for (int told = 0; told <= 3; told++) {
                String head = "aag 3 " + told + " 0 1 0\n";
                linesDue(head + "2\n4\n6\n".substring(0, 2 * lines) + "0\n", lines == told, 0);
                head = "aag 3 0 " + told + " 1 0\n";
                linesDue(head + "2 0\n4 1\n6 3\n".substring(0, 4 * lines) + "0\n",
                        lines == told, lines);
                head = "aag 3 0 0 1 " + told + "\n0\n";
                linesDue(head + "2 0 0\n4 1 2\n6 3 5\n".substring(0, 6 * lines), lines == told, 0);
            }
        }
        Loads.noCircuit("aag 0 0 0 1 0\n");
        Loads.takes("aag 0 0 0 1 0\n1\n", 0);
        Loads.noCircuit("aag 0 0 0 1 0\n1\n1\n");
    }

    private static void linesDue(String text, boolean right, int latches) {
        if (right) {
            Loads.takes(text, latches);
        } else {
            Loads.noCircuit(text);
        }
    }

    /** "the first value, 0 or 1, which is 0 if there is no third". */
    private static void firstValues() {
        String[] thirds = {"", " 0", " 1"};
        for (int k = 0; k < 9; k++) {
            String text = "aag 2 0 2 1 0\n2 2" + thirds[k % 3] + "\n4 4" + thirds[k / 3] + "\n0\n";
            Loads.takes(text, 2);
            int start = (k % 3 == 2 ? 1 : 0) + (k / 3 == 2 ? 2 : 0);
            Check.same("START", Check.loaded(text).circuit(5), start);
        }
        for (String third : new String[] {"2", "3", "4", "9", "10", "11", "99"}) {
            Loads.noCircuit("aag 2 0 2 1 0\n2 2 " + third + "\n4 4\n0\n");
            Loads.noCircuit("aag 2 0 2 1 0\n2 2\n4 4 " + third + "\n0\n");
        }
    }

    /** "and is empty then; this is the circuit from now on": until the next load that answers. */
    private static void textIsEmptyThen() {
        CircuitProver x = Check.loaded(BASE);
        String picture = Picture.of(x);
        Check.same("load of nothing", Check.load(x), Loads.NO_CIRCUIT);
        Check.same("after that", Picture.of(x), picture);
        Check.same("typing", Check.typeAll(x, "aag 0 0 0 1 0\n1\n"), true);
        Check.same("M while typing", x.circuit(0), 12);
        Check.same("load", Check.load(x), "0");
        Check.same("M then", x.circuit(0), 0);
        Check.same("typing", Check.typeAll(x, BASE), true);
        Check.same("load", Check.load(x), "2");
        Check.same("as at first", Picture.of(x), picture);
    }
}
