/** Promises 5 and 6: load and circuit, with all that THE TEXT, LITERALS and SMALL ask. */
final class LoadTest {
    private static final String BAD = "IllegalArgumentException";
    private static final String BIG = "UnsupportedOperationException";

    public static void main(String[] args) {
        circuits();
        form();
        numbers();
        latchLines();
        literals();
        gates();
        small();
        wrongBeforeBig();
        theHeader();
        failedLoadsChangeNothing();
        Check.end("LoadTest");
    }

    private static void due(String text, String answer) {
        CircuitProver x = new CircuitProver();
        Check.same("typing " + text, Check.typeAll(x, text), true);
        int before = x.length();
        Check.same("load of " + text.replace("\n", "\\n"), Check.load(x), answer);
        boolean loads = !answer.equals(BAD) && !answer.equals(BIG);
        Check.same("length then", x.length(), loads ? 0 : before);
        Check.same("a circuit then", Check.thrown(() -> x.circuit(0)),
                loads ? "nothing" : "IllegalStateException");
    }

    private static void circuits() {
        due("aag 0 0 0 1 0\n0\n", "0");
        due("aag 0 0 0 1 0\n1\n", "0");
        due("aag 1 1 0 1 0\n2\n3\n", "0");
        due("aag 1 0 1 1 0\n2 3\n2\n", "1");
        due("aag 3 1 1 1 1\n2\n4 6 1\n5\n6 2 4\n", "1");
        due("aag 99 0 1 1 0\n98 99\n98\n", "1");
        due("aag 49 1 0 1 1\n96\n98\n98 97 96\n", "0");
        due("aag 3 0 1 1 2\n4 6\n6\n6 2 1\n2 0 0\n", "1");
    }

    private static void form() {
        due("", BAD);
        due("aag", BAD);
        due("aag ", BAD);
        due("aag\n", BAD);
        due("aig 0 0 0 1 0\n0\n", BAD);
        due("AAG 0 0 0 1 0\n0\n", BAD);
        due(" aag 0 0 0 1 0\n0\n", BAD);
        due("aag  0 0 0 1 0\n0\n", BAD);
        due("aag0 0 0 1 0\n0\n", BAD);
        due("aag\n0 0 0 1 0\n0\n", BAD);
        due("aag 0  0 0 1 0\n0\n", BAD);
        due("aag 0 0 0 1 0 \n0\n", BAD);
        due("aag 0 0 0 1\n0\n", BAD);
        due("aag 0 0 0 1 0 0\n0\n", BAD);
        due("aag 0 0 0 1 0", BAD);
        due("aag 0 0 0 1 0\n", BAD);
        due("aag 0 0 0 1 0\n0", BAD);
        due("aag 0 0 0 1 0\n0 \n", BAD);
        due("aag 0 0 0 1 0\n 0\n", BAD);
        due("aag 0 0 0 1 0\n0\n\n", BAD);
        due("aag 0 0 0 1 0\n0\n0\n", BAD);
        due("aag 0 0 0 1 0\n0\nc\n", BAD);
        due("aag 0 0 0 1 0\n0\n ", BAD);
        due("aag 0 0 0 1 0\n\n0\n", BAD);
        due("aag 0 0 0 1 0\n0 0\n", BAD);
        due("aag 0 0 0 1 0\n-0\n", BAD);
        due("aag 0 0 0 1 0\nx\n", BAD);
        due("aag 1 1 0 1 0\n2 0\n0\n", BAD);
        due("aag 1 1 0 1 0\n2\n", BAD);
    }

    private static void numbers() {
        due("aag 00 0 0 1 0\n0\n", BAD);
        due("aag 01 1 0 1 0\n2\n0\n", BAD);
        due("aag 0 0 0 1 0\n00\n", BAD);
        due("aag 0 0 0 1 0\n01\n", BAD);
        due("aag 99 0 0 1 0\n0\n", "0");
        due("aag 100 0 0 1 0\n0\n", BAD);
        due("aag 1000 0 0 1 0\n0\n", BAD);
        due("aag 4294967296 0 0 1 0\n0\n", BAD);
        due("aag 50 1 0 1 0\n98\n99\n", "0");
        due("aag 50 1 0 1 0\n100\n0\n", BAD);
        due("aag 50 1 0 1 0\n98\n100\n", BAD);
        due("aag 50 1 0 1 0\n98\n101\n", BAD);
    }

    private static void latchLines() {
        due("aag 1 0 1 1 0\n2 2 0\n0\n", "1");
        due("aag 1 0 1 1 0\n2 2 1\n0\n", "1");
        due("aag 1 0 1 1 0\n2 2 2\n0\n", BAD);
        due("aag 1 0 1 1 0\n2 2 3\n0\n", BAD);
        due("aag 1 0 1 1 0\n2\n0\n", BAD);
        due("aag 1 0 1 1 0\n2 2 0 0\n0\n", BAD);
        due("aag 1 0 1 1 0\n2 2 \n0\n", BAD);
        due("aag 1 0 1 1 0\n2 2 01\n0\n", BAD);
    }

    private static void literals() {
        due("aag 1 1 0 1 0\n0\n0\n", BAD);
        due("aag 1 1 0 1 0\n1\n0\n", BAD);
        due("aag 1 1 0 1 0\n3\n0\n", BAD);
        due("aag 1 1 0 1 0\n4\n0\n", BAD);
        due("aag 0 1 0 1 0\n2\n0\n", BAD);
        due("aag 2 2 0 1 0\n2\n2\n0\n", BAD);
        due("aag 2 1 1 1 0\n2\n2 0\n0\n", BAD);
        due("aag 2 0 2 1 0\n4 0\n4 0\n0\n", BAD);
        due("aag 1 0 1 1 0\n0 0\n0\n", BAD);
        due("aag 1 0 1 1 0\n3 0\n0\n", BAD);
        due("aag 1 0 1 1 0\n2 4\n0\n", BAD);
        due("aag 2 0 1 1 0\n2 4\n0\n", BAD);
        due("aag 2 0 1 1 0\n2 5\n0\n", BAD);
        due("aag 2 0 2 1 0\n2 5\n4 3\n0\n", "2");
        due("aag 0 0 0 1 0\n2\n", BAD);
        due("aag 1 0 0 1 0\n2\n", BAD);
        due("aag 1 0 0 1 0\n3\n", BAD);
        due("aag 1 1 0 1 0\n2\n4\n", BAD);
    }

    private static void gates() {
        due("aag 1 0 0 1 1\n2\n2 0 1\n", "0");
        due("aag 1 0 0 1 1\n2\n2 1 1\n", "0");
        due("aag 1 0 0 1 1\n2\n2 2 1\n", BAD);
        due("aag 1 0 0 1 1\n2\n2 1 2\n", BAD);
        due("aag 1 0 0 1 1\n2\n2 3 1\n", BAD);
        due("aag 1 0 0 1 1\n2\n2 1 3\n", BAD);
        due("aag 1 0 0 1 1\n2\n3 1 1\n", BAD);
        due("aag 1 0 0 1 1\n0\n0 0 0\n", BAD);
        due("aag 1 0 0 1 1\n2\n4 1 1\n", BAD);
        due("aag 1 0 0 1 1\n2\n2 1\n", BAD);
        due("aag 1 0 0 1 1\n2\n2 1 1 1\n", BAD);
        due("aag 2 1 0 1 1\n4\n2\n2 4 1\n", BAD);
        due("aag 2 1 0 1 1\n4\n2\n2 0 5\n", BAD);
        due("aag 2 0 0 1 1\n4\n4 2 1\n", BAD);
        due("aag 2 0 0 1 1\n4\n4 1 3\n", BAD);
        due("aag 1 1 0 1 1\n2\n2\n2 1 1\n", BAD);
        due("aag 2 0 0 1 2\n4\n4 2 3\n2 0 0\n", "0");
        due("aag 2 0 0 1 2\n4\n2 0 0\n2 0 0\n", BAD);
    }

    private static void small() {
        due("aag 3 3 0 1 0\n2\n4\n6\n0\n", "0");
        due("aag 4 4 0 1 0\n2\n4\n6\n8\n0\n", BIG);
        due("aag 6 0 6 1 0\n2 0\n4 0\n6 0\n8 0\n10 0\n12 0\n0\n", "6");
        due("aag 7 0 7 1 0\n2 0\n4 0\n6 0\n8 0\n10 0\n12 0\n14 0\n0\n", BIG);
        due("aag 0 0 0 0 0\n", BIG);
        due("aag 0 0 0 2 0\n0\n1\n", BIG);
        due(gatesOnly(20), "0");
        due(gatesOnly(21), BIG);
        due(gatesOnly(41), BIG);
        due("aag 0 0 0 99 0\n" + "1\n".repeat(99), BIG);
        due("aag 0 0 0 99 0\n" + "1\n".repeat(98), BAD);
        due("aag 0 0 0 99 0\n" + "1\n".repeat(100), BAD);
        StringBuilder inputs = new StringBuilder("aag 49 49 0 1 0\n");
        for (int v = 49; v >= 1; v--) {
            inputs.append(2 * v).append('\n');
        }
        due(inputs + "99\n", BIG);
        StringBuilder latches = new StringBuilder("aag 49 0 49 1 0\n");
        for (int v = 1; v <= 49; v++) {
            latches.append(2 * v).append(" 1 1\n");
        }
        due(latches + "99\n", BIG);
    }

    private static String gatesOnly(int gates) {
        StringBuilder text = new StringBuilder("aag ").append(gates).append(" 0 0 1 ");
        text.append(gates).append("\n2\n");
        for (int v = 1; v <= gates; v++) {
            text.append(2 * v).append(" 0 1\n");
        }
        return text.toString();
    }

    private static void wrongBeforeBig() {
        due("aag 4 4 0 1 0\n2\n4\n6\n8\n10\n", BAD);
        due("aag 4 4 0 1 0\n2\n4\n6\n6\n0\n", BAD);
        due("aag 5 4 0 1 0\n2\n4\n6\n8\n10\n", BAD);
        due("aag 0 0 0 0 0\n0\n", BAD);
        due("aag 0 0 0 0 0", BAD);
        due("aag 1 0 0 2 0\n0\n2\n", BAD);
        due("aag 1 0 0 2 1\n0\n2\n2 0 0\n", BIG);
        due("aag 0 99 99 99 99\n", BAD);
        due("aag 99 99 99 99 99\n", BAD);
        due("aag 7 0 7 1 0\n2 0\n4 0\n6 0\n8 0\n10 0\n12 0\n14 0 2\n0\n", BAD);
    }

    private static void theHeader() {
        CircuitProver x = Check.loaded(
                "aag 9 2 3 1 2\n2\n18\n4 6 1\n6 8 0\n8 5 1\n16\n10 4 3\n16 6 10\n");
        int[] due = {9, 2, 3, 1, 2, 5, -1};
        for (int w = 0; w < due.length; w++) {
            Check.same("circuit(" + w + ")", x.circuit(w), due[w]);
        }
        Check.same("circuit(-1)", x.circuit(-1), CircuitProver.NONE);
        Check.same("circuit(max)", x.circuit(Integer.MAX_VALUE), CircuitProver.NONE);
        Check.same("circuit(min)", x.circuit(Integer.MIN_VALUE), CircuitProver.NONE);
    }

    private static void failedLoadsChangeNothing() {
        CircuitProver x = Check.loaded("aag 3 1 1 1 1\n2\n4 6 1\n6\n6 2 4\n");
        for (String text : new String[] {"aag 2 1 1 1 0\n2\n4 4\n7\n", "aag 0 0 0 0 0\n"}) {
            Check.typeAll(x, text);
            Check.same("load", Check.load(x).startsWith("I"), text.length() > 20);
            Check.same("length", x.length(), text.length());
            Check.same("M", x.circuit(0), 3);
            Check.same("START", x.circuit(5), 1);
            Check.same("depth", x.depth(), 0);
            Check.same("witness", x.witness(0), 1);
            Check.same("go", x.go(1, 1), 1);
            Check.same("count", x.count(1), 2);
            x.wipe();
        }
        Check.typeAll(x, "aag 0 0 0 1 0\n0\n");
        Check.same("a second circuit", Check.load(x), "0");
        Check.same("M", x.circuit(0), 0);
        Check.same("safe", x.safe(), true);
        Check.same("one state", Check.thrown(() -> x.go(1, 0)), "IndexOutOfBoundsException");
        Check.same("its witness", x.witness(0), CircuitProver.NONE);
    }
}
