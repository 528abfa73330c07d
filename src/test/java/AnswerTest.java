/** Promises 7 to 16 on circuits whose answers have been worked out by hand. */
final class AnswerTest {
    private static final int NONE = CircuitProver.NONE;

    public static void main(String[] args) {
        noLatches();
        outputFalse();
        inputsAndStates();
        countsToTheEnd();
        tokenRing();
        startIsNotWidened();
        leastInputs();
        wideStart();
        Check.end("AnswerTest");
    }

    private static void noLatches() {
        CircuitProver x = Check.loaded("aag 0 0 0 1 0\n1\n");
        Answers.unsafe(x, 0);
        Answers.sets(x, new int[] {NONE, 1, 1, 1}, new int[] {NONE, 0, 0, 0});
        Check.same("go", x.go(0, 0), 0);
        Check.same("output", x.output(0, 0), true);
        x = Check.loaded("aag 2 2 0 1 0\n2\n4\n4\n");
        Answers.unsafe(x, 2);
        Answers.sets(x, new int[] {NONE, 1, 1, 1}, new int[] {NONE, 0, 0, 0});
    }

    private static void outputFalse() {
        CircuitProver x = Check.loaded("aag 0 0 0 1 0\n0\n");
        Answers.safe(x, 1, 1, 1L);
        Answers.sets(x, new int[] {1, 1, 0, 0}, new int[] {0, 0, 0, 0});
        // A latch that stays: the first piece is START widened to all states.
        x = Check.loaded("aag 6 0 6 1 0\n2 2\n4 4\n6 6\n8 8\n10 10\n12 12\n0\n");
        Answers.safe(x, 1, 2, -1L);
        Answers.sets(x, new int[] {64, 1, 0, 0}, new int[] {0, 6, 0, 0});
    }

    private static void inputsAndStates() {
        // Latch 0 takes input 1, latch 1 takes the negated latch 0; the gate lines stand upside
        // down.
        CircuitProver x = Check.loaded("aag 6 2 2 1 2\n2\n4\n6 4\n8 7 1\n12\n12 10 6\n10 8 2\n");
        for (int state = 0; state < 4; state++) {
            for (int input = 0; input < 4; input++) {
                int to = input >> 1 | ((state & 1) == 0 ? 2 : 0);
                Check.same("go(" + state + ", " + input + ")", x.go(state, input), to);
                Check.same("output(" + state + ", " + input + ")", x.output(state, input),
                        state == 3 && (input & 1) == 1);
            }
        }
        int[][] wrong = {{-1, 0}, {4, 0}, {0, -1}, {0, 4}, {64, 8}, {Integer.MIN_VALUE, 0},
            {Integer.MAX_VALUE, 0}, {0, Integer.MIN_VALUE}, {0, Integer.MAX_VALUE}};
        for (int[] at : wrong) {
            String due = "IndexOutOfBoundsException";
            String where = "(" + at[0] + ", " + at[1] + ")";
            Check.same("go" + where, Check.thrown(() -> x.go(at[0], at[1])), due);
            Check.same("output" + where, Check.thrown(() -> x.output(at[0], at[1]) ? 1 : 0), due);
        }
        Answers.unsafe(x, 2, 1);
        Answers.sets(x, new int[] {NONE, 4, 1, 4}, new int[] {NONE, 0, 2, 0});
    }

    private static void countsToTheEnd() {
        // Six latches count up from 0; the output is 1 at 63.
        StringBuilder text = new StringBuilder("aag 21 0 6 1 15\n2 3\n");
        StringBuilder gates = new StringBuilder();
        int carry = 2;
        for (int j = 1; j < 6; j++) {
            int latch = 2 * j + 2;
            int both = 14 + 6 * (j - 1);
            gates.append(both).append(' ').append(latch).append(' ').append(carry).append('\n');
            gates.append(both + 2).append(' ').append(latch + 1).append(' ').append(carry + 1);
            gates.append('\n').append(both + 4).append(' ').append(both + 1).append(' ');
            gates.append(both + 3).append('\n');
            text.append(latch).append(' ').append(both + 4).append('\n');
            carry = both;
        }
        CircuitProver x = Check.loaded(text.append(carry).append('\n').append(gates).toString());
        for (int state = 0; state < 64; state++) {
            Check.same("go(" + state + ", 0)", x.go(state, 0), (state + 1) % 64);
            Check.same("output(" + state + ", 0)", x.output(state, 0), state == 63);
        }
        Answers.unsafe(x, new int[64]);
        Answers.sets(x, new int[] {NONE, 64, 1, 64}, new int[] {NONE, 0, 6, 0});
    }

    private static void tokenRing() {
        // 1 -> 2 -> 4 -> 1 and 3 -> 6 -> 5 -> 3; BAD is {3, 7}. With K = 1 the third round and
        // with K = 2 the second one meet NEAR(K); K = 3 takes three.
        CircuitProver x = Check.loaded("aag 4 0 3 1 1\n2 6 1\n4 2\n6 4 0\n8\n8 4 2\n");
        Check.same("START", x.circuit(5), 1);
        Answers.safe(x, 3, 8, 0b10111L);
        Answers.sets(x, new int[] {4, 3, 2, 4}, new int[] {4, 5, 2, 4});
    }

    private static void startIsNotWidened() {
        // One goes to 0 from everywhere, BAD is {3}: the piece is {0}, widened by latch 0 to
        // {0, 1}, and not by latch 1. START, 2, stays beside it.
        CircuitProver x = Check.loaded("aag 3 0 2 1 1\n2 0\n4 0 1\n6\n6 4 2\n");
        Answers.safe(x, 1, 2, 0b0111L);
        Answers.sets(x, new int[] {3, 2, 1, 1}, new int[] {2, 1, 2, 2});
    }

    private static void leastInputs() {
        // Latch 0 is set by input 1 or kept, latch 1 follows latch 0; the output is latch 1 and
        // input 0 not. The least input with bit 1 is 2, then 0 is enough.
        CircuitProver x = Check.loaded("aag 6 2 2 1 2\n2\n4\n6 11\n8 6\n12\n10 5 7\n12 8 3\n");
        Answers.unsafe(x, 2, 0, 0);
        Answers.sets(x, new int[] {NONE, 3, 2, 4}, new int[] {NONE, 2, 1, 0});
    }

    private static void wideStart() {
        // BAD is {0}, START is 1 and one stays where one is: the piece {1} widens by latch 1 alone.
        CircuitProver x = Check.loaded("aag 3 0 2 1 1\n2 2 1\n4 4\n6\n6 5 3\n");
        Answers.safe(x, 1, 2, 0b1010L);
        Answers.sets(x, new int[] {2, 1, 1, 1}, new int[] {1, 2, 2, 2});
    }
}
