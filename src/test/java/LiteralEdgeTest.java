/** The boundary cases of LITERALS and SMALL: what load takes and refuses by its numbers. */
final class LiteralEdgeTest {
    public static void main(String[] args) {
        atMostTwiceMAndOne();
        falseAndTrue();
        evenAndAtLeastTwo();
        allDifferent();
        othersAreDefined();
        definedFurtherDown();
        lessThanTheFirstOfAGate();
        threeInputs();
        sixLatches();
        oneOutput();
        twentyGates();
        allAtOnce();
        noCircuitComesFirst();
        Check.end("LiteralEdgeTest");
    }

    /** "All literals are at most 2 * M + 1." */
    private static void atMostTwiceMAndOne() {
        for (int m : new int[] {0, 1, 2, 9, 48}) {
            String head = "aag " + m + " ";
            String one = "aag " + (m + 1) + " ";
            int over = 2 * m + 2;
            Loads.noCircuit(head + "1 0 1 0\n" + over + "\n0\n");
            Loads.takes(one + "1 0 1 0\n" + over + "\n0\n", 0);
            Loads.noCircuit(head + "0 1 1 0\n" + over + " 0\n0\n");
            Loads.takes(one + "0 1 1 0\n" + over + " 0\n0\n", 1);
            Loads.noCircuit(head + "0 0 1 1\n0\n" + over + " 0 0\n");
            Loads.takes(one + "0 0 1 1\n0\n" + over + " 0 0\n", 0);
            Loads.noCircuit(head + "1 0 1 0\n" + over + "\n" + (over + 1) + "\n");
            Loads.takes(one + "1 0 1 0\n" + over + "\n" + (over + 1) + "\n", 0);
            Loads.noCircuit(head + "0 0 1 0\n" + over + "\n");
            Loads.noCircuit(head + "0 0 1 0\n" + (over + 1) + "\n");
        }
        Loads.takes("aag 1 0 1 1 0\n2 3\n3\n", 1);
        Loads.noCircuit("aag 1 0 1 1 0\n2 4\n3\n");
        Loads.takes("aag 99 1 0 1 0\n98\n99\n", 0);
    }

    /** "0 is FALSE and 1 is TRUE": wherever another literal may stand. */
    private static void falseAndTrue() {
        for (int literal = 0; literal <= 1; literal++) {
            Loads.takes("aag 0 0 0 1 0\n" + literal + "\n", 0);
            Loads.takes("aag 1 0 1 1 0\n2 " + literal + "\n2\n", 1);
            Loads.takes("aag 1 0 0 1 1\n2\n2 " + literal + " 1\n", 0);
            Loads.takes("aag 1 0 0 1 1\n2\n2 1 " + literal + "\n", 0);
            boolean isTrue = literal == 1;
            Check.same("as output", Check.loaded("aag 0 0 0 1 0\n" + literal + "\n").output(0, 0),
                    isTrue);
            Check.same("as next", Check.loaded("aag 1 0 1 1 0\n2 " + literal + "\n2\n").go(0, 0),
                    literal);
            Check.same("left in a gate",
                    Check.loaded("aag 1 0 0 1 1\n2\n2 " + literal + " 1\n").output(0, 0), isTrue);
            Check.same("right in a gate",
                    Check.loaded("aag 1 0 0 1 1\n3\n2 1 " + literal + "\n").output(0, 0), !isTrue);
        }
    }

    /** "The literals of inputs and latches and the first ones of gates are even, at least 2". */
    private static void evenAndAtLeastTwo() {
        for (int literal = 0; literal <= 9; literal++) {
            boolean right = literal >= 2 && literal % 2 == 0;
            due("aag 4 1 0 1 0\n" + literal + "\n0\n", right, 0);
            due("aag 4 0 1 1 0\n" + literal + " 0\n0\n", right, 1);
            due("aag 4 0 0 1 1\n0\n" + literal + " 0 0\n", right, 0);
        }
        // An odd one does not define its variable either.
        Loads.noCircuit("aag 1 1 0 1 0\n3\n2\n");
        Loads.noCircuit("aag 1 1 0 1 0\n3\n3\n");
    }

    private static void due(String text, boolean right, int latches) {
        if (right) {
            Loads.takes(text, latches);
        } else {
            Loads.noCircuit(text);
        }
    }

    /** "and all different": among their kind and with the other kinds, side by side or not. */
    private static void allDifferent() {
        String[] name = {"2", "4", "6", "8", "10", "12", "14", "16"};
        for (int one = -1; one < name.length; one++) {
            for (int two = one + 1; two < name.length && (one >= 0 || two == 0); two++) {
                String[] used = name.clone();
                used[two] = one < 0 ? used[two] : used[one];
                String text = "aag 8 2 3 1 3\n" + used[0] + "\n" + used[1] + "\n" + used[2] + " 0\n"
                        + used[3] + " 1 1\n" + used[4] + " 0\n0\n" + used[5] + " 0 1\n" + used[6]
                        + " 0 0\n" + used[7] + " 1 1\n";
                due(text, one < 0, 3);
            }
        }
    }

    /** "Each other literal is FALSE, TRUE or one of a DEFINED variable". */
    private static void othersAreDefined() {
        for (int literal = 2; literal <= 13; literal++) {
            // Variables 1 (input), 3 (latch) and 6 (gate) are defined, 2, 4 and 5 are not.
            boolean right = literal / 2 == 1 || literal / 2 == 3 || literal / 2 == 6;
            due("aag 6 1 1 1 1\n2\n6 " + literal + "\n0\n12 0 0\n", right, 1);
            due("aag 6 1 1 1 1\n2\n6 0\n" + literal + "\n12 0 0\n", right, 1);
            boolean less = literal < 12;
            due("aag 6 1 1 1 1\n2\n6 0\n0\n12 " + literal + " 0\n", right && less, 1);
            due("aag 6 1 1 1 1\n2\n6 0\n0\n12 1 " + literal + "\n", right && less, 1);
        }
    }

    /** "(also one that is defined further down)". */
    private static void definedFurtherDown() {
        Loads.takes("aag 2 0 2 1 0\n2 4\n4 2\n2\n", 2);
        Loads.takes("aag 2 0 1 1 1\n2 5\n5\n4 2 2\n", 1);
        Loads.takes("aag 2 0 0 1 2\n4\n4 3 1\n2 1 1\n", 0);
        Loads.takes("aag 3 0 0 1 3\n6\n6 4 5\n4 2 3\n2 0 1\n", 0);
        Loads.noCircuit("aag 2 0 2 1 0\n2 6\n4 2\n2\n");
        Loads.noCircuit("aag 3 0 1 1 1\n2 6\n5\n4 2 2\n");
        Loads.noCircuit("aag 3 0 0 1 2\n6\n6 3 4\n4 1 1\n");
        // The values are the same in whatever order the gate lines stand.
        String head = "aag 4 1 0 1 3\n2\n9\n";
        String[] gates = {"4 2 1\n", "6 5 3\n", "8 7 5\n"};
        int[][] orders = {{0, 1, 2}, {0, 2, 1}, {1, 0, 2}, {1, 2, 0}, {2, 0, 1}, {2, 1, 0}};
        for (int[] order : orders) {
            String text = head + gates[order[0]] + gates[order[1]] + gates[order[2]];
            Check.same("output with 0", Check.loaded(text).output(0, 0), true);
            Check.same("output with 1", Check.loaded(text).output(0, 1), true);
            text = text.replace("8 7 5", "8 7 4");
            Check.same("output with 0", Check.loaded(text).output(0, 0), true);
            Check.same("output with 1", Check.loaded(text).output(0, 1), false);
        }
    }

    /** "In a gate the two others are less than its first one". */
    private static void lessThanTheFirstOfAGate() {
        for (int literal = 0; literal <= 9; literal++) {
            String head = "aag 4 2 1 1 1\n2\n8\n4 0\n6\n";
            due(head + "6 " + literal + " 0\n", literal < 6, 1);
            due(head + "6 0 " + literal + "\n", literal < 6, 1);
            due(head + "6 " + literal + " " + literal + "\n", literal < 6, 1);
            due(head + "6 5 " + literal + "\n", literal < 6, 1);
        }
        Loads.takes("aag 49 1 0 1 1\n96\n98\n98 97 96\n", 0);
        Loads.noCircuit("aag 49 1 0 1 1\n98\n96\n96 98 0\n");
        Loads.noCircuit("aag 49 1 0 1 1\n98\n96\n96 0 99\n");
    }

    private static String inputs(int many) {
        StringBuilder text = new StringBuilder("aag 49 " + many + " 0 1 0\n");
        for (int v = 1; v <= many; v++) {
            text.append(2 * v).append('\n');
        }
        return text.append("1\n").toString();
    }

    /** "I is at most 3". */
    private static void threeInputs() {
        for (int many = 0; many <= 3; many++) {
            Loads.takes(inputs(many), 0);
        }
        for (int many : new int[] {4, 5, 8, 9, 10, 32, 49}) {
            Loads.notSmall(inputs(many));
        }
    }

    private static String latches(int many) {
        StringBuilder text = new StringBuilder("aag 49 0 " + many + " 1 0\n");
        for (int v = 49; v > 49 - many; v--) {
            text.append(2 * v).append(" 0\n");
        }
        return text.append("1\n").toString();
    }

    /** "L at most 6". */
    private static void sixLatches() {
        for (int many = 0; many <= 6; many++) {
            Loads.takes(latches(many), many);
        }
        for (int many : new int[] {7, 8, 9, 10, 32, 49}) {
            Loads.notSmall(latches(many));
        }
    }

    private static String outputs(int many) {
        return "aag 0 0 0 " + many + " 0\n" + "1\n".repeat(many);
    }

    /** "O is 1". */
    private static void oneOutput() {
        Loads.notSmall(outputs(0));
        Loads.takes(outputs(1), 0);
        for (int many : new int[] {2, 3, 9, 10, 98, 99}) {
            Loads.notSmall(outputs(many));
        }
    }

    private static String gates(int many) {
        StringBuilder text = new StringBuilder("aag 49 0 0 1 " + many + "\n1\n");
        for (int v = many; v >= 1; v--) {
            text.append(2 * v).append(" 0 1\n");
        }
        return text.toString();
    }

    /** "and A at most 20". */
    private static void twentyGates() {
        for (int many : new int[] {0, 1, 19, 20}) {
            Loads.takes(gates(many), 0);
        }
        for (int many : new int[] {21, 22, 32, 40, 49}) {
            Loads.notSmall(gates(many));
        }
    }

    private static String full(int inputs, int latches, int gates) {
        StringBuilder text = new StringBuilder("aag 49 " + inputs + " " + latches + " 1 ");
        text.append(gates).append('\n');
        for (int v = 1; v <= inputs; v++) {
            text.append(2 * v).append('\n');
        }
        for (int v = 9; v < 9 + latches; v++) {
            text.append(2 * v).append(' ').append(2 * v + 1).append(" 1\n");
        }
        text.append("98\n");
        for (int v = 50 - gates; v < 50; v++) {
            text.append(2 * v).append(" 18 2\n");
        }
        return text.toString();
    }

    /** The largest small circuit, and one step beyond it in each number. */
    private static void allAtOnce() {
        Loads.takes(full(3, 6, 20), 6);
        CircuitProver x = Check.loaded(full(3, 6, 20));
        int[] due = {49, 3, 6, 1, 20, 63};
        for (int w = 0; w < due.length; w++) {
            Check.same("circuit(" + w + ")", x.circuit(w), due[w]);
        }
        Check.same("go", x.go(63, 7), 0);
        Check.same("go", x.go(0, 7), 63);
        Check.same("output", x.output(63, 7), true);
        Check.same("output", x.output(62, 7), false);
        Check.same("output", x.output(63, 6), false);
        Loads.notSmall(full(4, 6, 20));
        Loads.notSmall(full(3, 7, 20));
        Loads.notSmall(full(3, 6, 21));
        Loads.notSmall(full(4, 7, 21));
    }

    /** "if it is no circuit; UnsupportedOperationException if it is one, but not SMALL". */
    private static void noCircuitComesFirst() {
        String[] big = {inputs(4), latches(7), outputs(0), outputs(2), gates(21), full(4, 7, 21)};
        for (String text : big) {
            Loads.notSmall(text);
            Loads.noCircuit(text + "\n");
            Loads.noCircuit(text + "0\n");
            Loads.noCircuit(text.substring(0, text.length() - 1));
            Loads.noCircuit(text.replace("aag ", "aag  "));
        }
        Loads.noCircuit(inputs(4).replace("8\n", "9\n"));
        Loads.noCircuit(inputs(4).replace("8\n", "6\n"));
        Loads.noCircuit(inputs(4).replace("\n1\n", "\n99\n"));
        Loads.noCircuit(latches(7).replace("86 0", "86 2"));
        Loads.noCircuit(latches(7).replace("86 0", "87 0"));
        Loads.noCircuit(latches(7).replace("86 0", "98 0"));
        Loads.noCircuit(latches(7).replace("86 0", "86 0 2"));
        Loads.noCircuit("aag 0 0 0 2 0\n1\n2\n");
        Loads.noCircuit("aag 0 0 0 2 0\n2\n1\n");
        Loads.noCircuit(gates(21).replace("\n2 0 1\n", "\n2 0 2\n"));
        Loads.noCircuit(gates(21).replace("\n2 0 1\n", "\n4 0 1\n"));
        Loads.noCircuit(gates(21).replace("\n42 0 1\n", "\n42 0 44\n"));
    }
}
