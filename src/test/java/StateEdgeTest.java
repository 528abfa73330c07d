/** The boundary cases of promises 6 to 8: circuit, go, output, for each number of each kind. */
final class StateEdgeTest {
    private static final int NONE = CircuitProver.NONE;
    private static final String NO_PLACE = "IndexOutOfBoundsException";

    public static void main(String[] args) {
        for (int latches = 0; latches <= 6; latches++) {
            for (int inputs = 0; inputs <= 3; inputs++) {
                wordsOfTheCircuit(latches, inputs);
                statesAndInputs(latches, inputs);
                refusedPlacesChangeNothing(latches, inputs);
            }
        }
        startOfEachLatch();
        aSmallerCircuitHasFewerStates();
        aLargerCircuitHasMoreStates();
        otherVariablesThanBefore();
        Check.end("StateEdgeTest");
    }

    /**
     * Latch j takes input j if there is one and turns round otherwise; the output is the last
     * input, or TRUE if there is none.
     */
    private static String text(int latches, int inputs, int start) {
        Sketch sketch = new Sketch();
        int[] input = new int[inputs];
        for (int k = 0; k < inputs; k++) {
            input[k] = sketch.input();
        }
        int[] latch = sketch.latches(latches, start);
        for (int j = 0; j < latches; j++) {
            sketch.next(latch[j], j < inputs ? input[j] : Sketch.not(latch[j]));
        }
        return sketch.text(inputs == 0 ? 1 : input[inputs - 1]);
    }

    private static int goes(int latches, int inputs, int state, int input) {
        int taken = (1 << Math.min(latches, inputs)) - 1;
        int all = (1 << latches) - 1;
        return input & taken | ~state & all & ~taken;
    }

    private static boolean hasOutput(int inputs, int input) {
        return inputs == 0 || input >> inputs - 1 == 1;
    }

    /** "w = 0 .. 4: M, I, L, O, A; 5: START .. NONE for any other w". */
    private static void wordsOfTheCircuit(int latches, int inputs) {
        int start = (1 << latches) - 1;
        CircuitProver x = Check.loaded(text(latches, inputs, start));
        int[] due = {latches + inputs, inputs, latches, 1, 0, start};
        for (int w : new int[] {Integer.MIN_VALUE, -2147483647, -6, -5, -2, -1, 6, 7, 8, 256,
            Integer.MAX_VALUE}) {
            Check.same("circuit(" + w + ")", Check.answer(() -> x.circuit(w)), "" + NONE);
        }
        for (int w = 0; w < due.length; w++) {
            Check.same("circuit(" + w + ")", x.circuit(w), due[w]);
        }
    }

    /** "the states are 0 .. 2^L - 1", "An INPUT is 0 .. 2^I - 1 likewise". */
    private static void statesAndInputs(int latches, int inputs) {
        String text = text(latches, inputs, 0);
        for (int state = 0; state < 1 << latches; state++) {
            CircuitProver x = Check.loaded(text);
            for (int input = 0; input < 1 << inputs; input++) {
                String where = "(" + state + ", " + input + ") of " + latches + ", " + inputs;
                Check.same("go" + where, x.go(state, input), goes(latches, inputs, state, input));
                Check.same("output" + where, x.output(state, input), hasOutput(inputs, input));
            }
        }
    }

    /** "IndexOutOfBoundsException if there is no such state or input", and what follows. */
    private static void refusedPlacesChangeNothing(int latches, int inputs) {
        int states = 1 << latches;
        int steps = 1 << inputs;
        int[][] wrong = {
            {-1, 0}, {states, 0}, {0, -1}, {0, steps}, {states - 1, steps}, {states, steps - 1},
            {-1, -1}, {states, steps}, {-states, 0}, {0, -steps}, {states + 1, 0}, {0, steps + 1},
            {64, 0}, {0, 8}, {-64, 0}, {0, -8}, {256, 0}, {0, 256},
            {Integer.MIN_VALUE, 0}, {0, Integer.MIN_VALUE}, {Integer.MAX_VALUE, 0},
            {0, Integer.MAX_VALUE}, {Integer.MIN_VALUE, Integer.MIN_VALUE}
        };
        CircuitProver x = Check.loaded(text(latches, inputs, 0));
        String picture = Picture.of(x);
        for (int[] at : wrong) {
            String where = "(" + at[0] + ", " + at[1] + ") of " + latches + ", " + inputs;
            Check.same("go" + where, Check.answer(() -> x.go(at[0], at[1])), NO_PLACE);
            Check.same("go of the last", x.go(states - 1, steps - 1),
                    goes(latches, inputs, states - 1, steps - 1));
            Check.same("output" + where, Check.answer(() -> x.output(at[0], at[1]) ? 1 : 0),
                    NO_PLACE);
            Check.same("output of the last", x.output(states - 1, steps - 1), true);
            Check.same("output of the first", x.output(0, 0), inputs == 0);
        }
        Check.same("after all of them", Picture.of(x), picture);
    }

    /** "latch j (in the order of their lines, from 0) is bit j", also of START. */
    private static void startOfEachLatch() {
        for (int start = 0; start < 64; start++) {
            Check.same("START", Check.loaded(text(6, 0, start)).circuit(5), start);
        }
        // The order is that of the lines, not that of the literals.
        CircuitProver x = Check.loaded("aag 5 2 3 1 0\n10\n2\n8 10 1\n4 2\n6 6 1\n4\n");
        Check.same("START", x.circuit(5), 5);
        Check.same("input 0 goes to latch 0", x.go(0, 1), 1);
        Check.same("input 1 goes to latch 1", x.go(0, 2), 2);
        Check.same("latch 2 stays", x.go(4, 0), 4);
        Check.same("output is latch 1", x.output(2, 0), true);
        Check.same("output is not latch 0 or 2", x.output(5, 3), false);
    }

    /** States and inputs that only the circuit before had are no longer there. */
    private static void aSmallerCircuitHasFewerStates() {
        CircuitProver x = Check.loaded(text(6, 3, 0));
        Check.same("go", Check.answer(() -> x.go(63, 7)), "7");
        Check.typeAll(x, text(1, 1, 0));
        Check.same("go before the load", Check.answer(() -> x.go(63, 7)), "7");
        Check.same("load", Check.load(x), "1");
        Check.same("go", Check.answer(() -> x.go(63, 7)), NO_PLACE);
        Check.same("go", Check.answer(() -> x.go(2, 0)), NO_PLACE);
        Check.same("go", Check.answer(() -> x.go(0, 2)), NO_PLACE);
        Check.same("go", Check.answer(() -> x.go(1, 1)), "1");
        Check.same("output", Check.answer(() -> x.output(2, 0) ? 1 : 0), NO_PLACE);
        Check.same("output", Check.answer(() -> x.output(0, 2) ? 1 : 0), NO_PLACE);
        Check.same("output", Check.answer(() -> x.output(1, 1) ? 1 : 0), "1");
    }

    private static void aLargerCircuitHasMoreStates() {
        CircuitProver x = Check.loaded(text(0, 0, 0));
        Check.same("go", Check.answer(() -> x.go(0, 0)), "0");
        Check.same("go", Check.answer(() -> x.go(1, 0)), NO_PLACE);
        Check.same("go", Check.answer(() -> x.go(0, 1)), NO_PLACE);
        Check.typeAll(x, text(6, 3, 0));
        Check.same("go before the load", Check.answer(() -> x.go(1, 0)), NO_PLACE);
        Check.same("load", Check.load(x), "6");
        Check.same("go", Check.answer(() -> x.go(63, 7)), "7");
        Check.same("go", Check.answer(() -> x.go(64, 7)), NO_PLACE);
        Check.same("go", Check.answer(() -> x.go(63, 8)), NO_PLACE);
    }

    /** A variable can be an input, a latch or a gate, whatever it was in the circuit before. */
    private static void otherVariablesThanBefore() {
        String[] before = {
            "aag 9 3 6 1 0\n2\n4\n6\n8 0\n10 0\n12 0\n14 0\n16 0\n18 0\n0\n",
            "aag 9 3 6 1 0\n18\n16\n14\n2 1\n4 1\n6 1\n8 1\n10 1\n12 1\n1\n",
            "aag 9 0 0 1 9\n0\n2 1 1\n4 1 1\n6 1 1\n8 1 1\n10 1 1\n12 1 1\n14 1 1\n16 1 1\n18 0 0\n"
        };
        for (String text : before) {
            for (int literal = 2; literal <= 18; literal += 2) {
                CircuitProver input = reloaded(text, "aag 9 1 0 1 0\n" + literal + "\n"
                        + literal + "\n");
                Check.same("an input of 0", input.output(0, 0), false);
                Check.same("an input of 1", input.output(0, 1), true);
                CircuitProver latch = reloaded(text, "aag 9 0 1 1 0\n" + literal + " "
                        + (literal + 1) + "\n" + literal + "\n");
                Check.same("a latch of 0", latch.output(0, 0), false);
                Check.same("a latch of 1", latch.output(1, 0), true);
                Check.same("go from 0", latch.go(0, 0), 1);
                Check.same("go from 1", latch.go(1, 0), 0);
                CircuitProver gate = reloaded(text, "aag 9 0 0 1 1\n" + literal + "\n" + literal
                        + " 1 1\n");
                Check.same("a gate of 1", gate.output(0, 0), true);
            }
        }
    }

    private static CircuitProver reloaded(String before, String text) {
        CircuitProver x = Check.loaded(before);
        Check.typeAll(x, text);
        x.load();
        return x;
    }
}
