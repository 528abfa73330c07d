/** Promises 7 to 16 on circuits whose answers have been worked out by hand. */
final class AnswerTest {
    private static final int NONE = CircuitProver.NONE;

    public static void main(String[] args) {
        noLatches();
        outputFalse();
        inputsAndStates();
        countsToTheEnd();
        tokenRing();
        startIsNotWidened();
        leastInputs();
        wideStart();
        Check.end("AnswerTest");
    }

    private static void sets(CircuitProver x, int[] counts, int[] sizes) {
        for (int which = 0; which < 4; which++) {
            Check.same("count(" + which + ")", x.count(which), counts[which]);
            Check.same("size(" + which + ")", x.size(which), sizes[which]);
        }
        for (int which : new int[] {-1, 4, 5, Integer.MIN_VALUE, Integer.MAX_VALUE}) {
            Check.same("count(" + which + ")", x.count(which), NONE);
            Check.same("size(" + which + ")", x.size(which), NONE);
        }
    }

    private static void unsafe(CircuitProver x, int... witness) {
        Check.same("safe", x.safe(), false);
        Check.same("depth", x.depth(), witness.length - 1);
        for (int k = 0; k < witness.length; k++) {
            Check.same("witness(" + k + ")", x.witness(k), witness[k]);
        }
        for (int k : new int[] {-1, witness.length, Integer.MIN_VALUE, Integer.MAX_VALUE}) {
            Check.same("witness(" + k + ")", x.witness(k), NONE);
        }
        Check.same("bound", x.bound(), NONE);
        Check.same("rounds", x.rounds(), NONE);
        for (int state = -1; state <= 64; state++) {
            Check.same("holds(" + state + ")", x.holds(state), false);
        }
    }

    private static void safe(CircuitProver x, int bound, int rounds, long invariant) {
        Check.same("safe", x.safe(), true);
        Check.same("depth", x.depth(), NONE);
        for (int k = -1; k < 3; k++) {
            Check.same("witness(" + k + ")", x.witness(k), NONE);
        }
        Check.same("bound", x.bound(), bound);
        Check.same("rounds", x.rounds(), rounds);
        for (int state = 0; state < 64; state++) {
            Check.same("holds(" + state + ")", x.holds(state), (invariant >>> state & 1) != 0);
        }
        for (int state : new int[] {-1, -64, 64, 65, 128, Integer.MIN_VALUE, Integer.MAX_VALUE}) {
            Check.same("holds(" + state + ")", x.holds(state), false);
        }
    }

    private static void noLatches() {
        CircuitProver x = Check.loaded("aag 0 0 0 1 0\n1\n");
        unsafe(x, 0);
        sets(x, new int[] {NONE, 1, 1, 1}, new int[] {NONE, 0, 0, 0});
        Check.same("go", x.go(0, 0), 0);
        Check.same("output", x.output(0, 0), true);
        x = Check.loaded("aag 2 2 0 1 0\n2\n4\n4\n");
        unsafe(x, 2);
        sets(x, new int[] {NONE, 1, 1, 1}, new int[] {NONE, 0, 0, 0});
    }

    private static void outputFalse() {
        CircuitProver x = Check.loaded("aag 0 0 0 1 0\n0\n");
        safe(x, 1, 1, 1L);
        sets(x, new int[] {1, 1, 0, 0}, new int[] {0, 0, 0, 0});
        // A latch that stays: the first piece is START widened to all states.
        x = Check.loaded("aag 6 0 6 1 0\n2 2\n4 4\n6 6\n8 8\n10 10\n12 12\n0\n");
        safe(x, 1, 2, -1L);
        sets(x, new int[] {64, 1, 0, 0}, new int[] {0, 6, 0, 0});
    }

    private static void inputsAndStates() {
        // Latch 0 takes input 1, latch 1 takes the negated latch 0; the gate lines stand upside down.
        CircuitProver x = Check.loaded("aag 6 2 2 1 2\n2\n4\n6 4\n8 7 1\n12\n12 10 6\n10 8 2\n");
        for (int state = 0; state < 4; state++) {
            for (int input = 0; input < 4; input++) {
                int to = input >> 1 | ((state & 1) == 0 ? 2 : 0);
                Check.same("go(" + state + ", " + input + ")", x.go(state, input), to);
                Check.same("output(" + state + ", " + input + ")", x.output(state, input),
                        state == 3 && (input & 1) == 1);
            }
        }
        int[][] wrong = {{-1, 0}, {4, 0}, {0, -1}, {0, 4}, {64, 8}, {Integer.MIN_VALUE, 0},
            {Integer.MAX_VALUE, 0}, {0, Integer.MIN_VALUE}, {0, Integer.MAX_VALUE}};
        for (int[] at : wrong) {
            String due = "IndexOutOfBoundsException";
            String where = "(" + at[0] + ", " + at[1] + ")";
            Check.same("go" + where, Check.thrown(() -> x.go(at[0], at[1])), due);
            Check.same("output" + where, Check.thrown(() -> x.output(at[0], at[1]) ? 1 : 0), due);
        }
        unsafe(x, 2, 1);
        sets(x, new int[] {NONE, 4, 1, 4}, new int[] {NONE, 0, 2, 0});
    }

    private static void countsToTheEnd() {
        // Six latches count up from 0; the output is 1 at 63.
        StringBuilder text = new StringBuilder("aag 21 0 6 1 15\n2 3\n");
        StringBuilder gates = new StringBuilder();
        int carry = 2;
        for (int j = 1; j < 6; j++) {
            int latch = 2 * j + 2;
            int both = 14 + 6 * (j - 1);
            gates.append(both).append(' ').append(latch).append(' ').append(carry).append('\n');
            gates.append(both + 2).append(' ').append(latch + 1).append(' ').append(carry + 1);
            gates.append('\n').append(both + 4).append(' ').append(both + 1).append(' ');
            gates.append(both + 3).append('\n');
            text.append(latch).append(' ').append(both + 4).append('\n');
            carry = both;
        }
        CircuitProver x = Check.loaded(text.append(carry).append('\n').append(gates).toString());
        for (int state = 0; state < 64; state++) {
            Check.same("go(" + state + ", 0)", x.go(state, 0), (state + 1) % 64);
            Check.same("output(" + state + ", 0)", x.output(state, 0), state == 63);
        }
        unsafe(x, new int[64]);
        sets(x, new int[] {NONE, 64, 1, 64}, new int[] {NONE, 0, 6, 0});
    }

    private static void tokenRing() {
        // 1 -> 2 -> 4 -> 1 and 3 -> 6 -> 5 -> 3; BAD is {3, 7}. With K = 1 the third round and
        // with K = 2 the second one meet NEAR(K); K = 3 takes three.
        CircuitProver x = Check.loaded("aag 4 0 3 1 1\n2 6 1\n4 2\n6 4 0\n8\n8 4 2\n");
        Check.same("START", x.circuit(5), 1);
        safe(x, 3, 8, 0b10111L);
        sets(x, new int[] {4, 3, 2, 4}, new int[] {4, 5, 2, 4});
    }

    private static void startIsNotWidened() {
        // One goes to 0 from everywhere, BAD is {3}: the piece is {0}, widened by latch 0 to
        // {0, 1}, and not by latch 1. START, 2, stays beside it.
        CircuitProver x = Check.loaded("aag 3 0 2 1 1\n2 0\n4 0 1\n6\n6 4 2\n");
        safe(x, 1, 2, 0b0111L);
        sets(x, new int[] {3, 2, 1, 1}, new int[] {2, 1, 2, 2});
    }

    private static void leastInputs() {
        // Latch 0 is set by input 1 or kept, latch 1 follows latch 0; the output is latch 1 and
        // input 0 not. The least input with bit 1 is 2, then 0 is enough.
        CircuitProver x = Check.loaded("aag 6 2 2 1 2\n2\n4\n6 11\n8 6\n12\n10 5 7\n12 8 3\n");
        unsafe(x, 2, 0, 0);
        sets(x, new int[] {NONE, 3, 2, 4}, new int[] {NONE, 2, 1, 0});
    }

    private static void wideStart() {
        // BAD is {0}, START is 1 and one stays where one is: the piece {1} widens by latch 1 alone.
        CircuitProver x = Check.loaded("aag 3 0 2 1 1\n2 2 1\n4 4\n6\n6 5 3\n");
        safe(x, 1, 2, 0b1010L);
        sets(x, new int[] {2, 1, 1, 1}, new int[] {1, 2, 2, 2});
    }
}
