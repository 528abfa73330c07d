import java.util.ArrayList;
import java.util.Arrays;
import java.util.List;

/** The boundary cases of promises 9 to 16: each method has one sentence of the document. */
final class AnswerEdgeTest {
    private static final int NONE = CircuitProver.NONE;

    public static void main(String[] args) {
        badWithSomeInput();
        reachedInNoStep();
        everyDepth();
        witnessHasDepthAndOneInputs();
        leastLastInput();
        leastFirstInput();
        asManyStepsAsAreLeft();
        firstBoundIsOne();
        boundGrowsByOne();
        highestBounds();
        lastRoundIsCounted();
        latchZeroFirst();
        oneLatchIsKept();
        allStatesHold();
        oneStateHolds();
        emptyAndFullSets();
        sizesOfSets();
        largestSize();
        noneIsLeftOfTheCircuitBefore();
        wrongQuestionsChangeNothing();
        Check.end("AnswerEdgeTest");
    }

    /** "A state is BAD if with some input the output is 1 in it": with one of eight is enough. */
    private static void badWithSomeInput() {
        for (int value = 0; value < 8; value++) {
            for (int start = 0; start <= 1; start++) {
                Sketch sketch = new Sketch();
                int[] input = threeInputs(sketch);
                int latch = sketch.latch(start);
                int output = sketch.and(only(sketch, input, value), latch);
                CircuitProver x = Check.loaded(sketch.text(output));
                if (start == 1) {
                    Answers.unsafe(x, value);
                    Answers.sets(x, new int[] {NONE, 1, 1, 1}, new int[] {NONE, 1, 1, 1});
                } else {
                    Answers.safe(x, 1, 1, 0b1L);
                    Answers.sets(x, new int[] {1, 1, 1, 1}, new int[] {1, 1, 1, 1});
                }
            }
        }
    }

    private static int[] threeInputs(Sketch sketch) {
        return new int[] {sketch.input(), sketch.input(), sketch.input()};
    }

    /** A literal that is 1 with this input alone. */
    private static int only(Sketch sketch, int[] input, int value) {
        int low = sketch.and(input[0] ^ ~value & 1, input[1] ^ ~(value >> 1) & 1);
        return sketch.and(low, input[2] ^ ~(value >> 2) & 1);
    }

    /** "UNSAFE if a BAD state can be reached from START": START itself in 0 steps. */
    private static void reachedInNoStep() {
        for (int latches = 0; latches <= 6; latches++) {
            int last = (1 << latches) - 1;
            CircuitProver x = Check.loaded(Sketch.staying(latches, last, 1));
            Answers.unsafe(x, 0);
            Answers.sets(x, new int[] {NONE, 1, last + 1, last + 1},
                    new int[] {NONE, latches, 0, 0});
        }
        Answers.unsafe(Check.loaded(Sketch.staying(1, 1, 2)), 0);
        Answers.safe(Check.loaded(Sketch.staying(1, 0, 2)), 1, 1, 0b1L);
        Answers.safe(Check.loaded(Sketch.staying(1, 1, 3)), 1, 1, 0b10L);
        Answers.unsafe(Check.loaded(Sketch.staying(1, 0, 3)), 0);
    }

    /** "DEPTH is the least number of steps for that": from 0 to 63. */
    private static void everyDepth() {
        for (int start = 0; start < 64; start++) {
            CircuitProver x = Check.loaded(Sketch.counter(start));
            Check.same("START", x.circuit(5), start);
            Answers.unsafe(x, new int[64 - start]);
            Answers.sets(x, new int[] {NONE, 64, 1, 64}, new int[] {NONE, 0, 6, 0});
        }
    }

    /** "a row of DEPTH + 1 inputs", "NONE if there is none": the longest one, of 64. */
    private static void witnessHasDepthAndOneInputs() {
        int[] due = new int[64];
        Arrays.fill(due, 5);
        CircuitProver x = Check.loaded(Sketch.counterWithInputFive());
        Check.same("A", x.circuit(4), 20);
        Answers.unsafe(x, due);
        for (int k : new int[] {-1, 64, 65, 127, 128, -64, Integer.MIN_VALUE, Integer.MAX_VALUE}) {
            Check.same("witness(" + k + ")", x.witness(k), NONE);
            Check.same("witness(63)", x.witness(63), 5);
            Check.same("witness(0)", x.witness(0), 5);
        }
        CircuitProver safe = Check.loaded(Sketch.staying(6, 0, 0));
        for (int k : new int[] {-2, -1, 0, 1, 63, 64, Integer.MIN_VALUE, Integer.MAX_VALUE}) {
            Check.same("witness(" + k + ") of a safe one", safe.witness(k), NONE);
        }
    }

    /** "the last one is the least with which the output is 1". */
    private static void leastLastInput() {
        for (int value = 0; value < 8; value++) {
            Sketch sketch = new Sketch();
            int here = only(sketch, threeInputs(sketch), value);
            Answers.unsafe(Check.loaded(sketch.text(here)), value);
            Answers.unsafe(Check.loaded(sketch.text(Sketch.not(here))), value == 0 ? 1 : 0);
        }
    }

    /** "each of the first DEPTH is the least with which one goes to a state" on the way. */
    private static void leastFirstInput() {
        for (int value = 0; value < 8; value++) {
            for (int turned = 0; turned <= 1; turned++) {
                Sketch sketch = new Sketch();
                int[] input = threeInputs(sketch);
                int latch = sketch.latch(0);
                sketch.next(latch, only(sketch, input, value) ^ turned);
                CircuitProver x = Check.loaded(sketch.text(latch));
                Answers.unsafe(x, turned == 0 ? value : value == 0 ? 1 : 0, 0);
                Answers.sets(x, new int[] {NONE, 2, 1, 2}, new int[] {NONE, 0, 1, 0});
            }
        }
    }

    /** "in as many steps as are left then": input 0 also leads to a BAD state, but in one more. */
    private static void asManyStepsAsAreLeft() {
        // 0 goes to 1 with 0 and to 2 with 1, 1 to 2, 2 to 3, 3 stays and is bad.
        Sketch sketch = new Sketch();
        int input = sketch.input();
        int[] latch = sketch.latches(2, 0);
        int zero = sketch.and(Sketch.not(latch[0]), Sketch.not(latch[1]));
        int first = sketch.and(zero, Sketch.not(input));
        sketch.next(latch[0],
                Sketch.not(sketch.and(Sketch.not(latch[1]), Sketch.not(first))));
        sketch.next(latch[1], Sketch.not(first));
        CircuitProver x = Check.loaded(sketch.text(sketch.and(latch[0], latch[1])));
        int[][] goes = {{1, 2}, {2, 2}, {3, 3}, {3, 3}};
        for (int state = 0; state < 4; state++) {
            Check.same("go with 0", x.go(state, 0), goes[state][0]);
            Check.same("go with 1", x.go(state, 1), goes[state][1]);
        }
        Answers.unsafe(x, 1, 0, 0);
        Answers.sets(x, new int[] {NONE, 4, 1, 4}, new int[] {NONE, 0, 2, 0});
    }

    /** "K is 1": also where no state is BAD and NEAR(1) is empty. */
    private static void firstBoundIsOne() {
        for (int latches = 0; latches <= 6; latches++) {
            Check.same("bound", Check.loaded(Sketch.staying(latches, 0, 0)).bound(), 1);
            Check.same("bound", Check.loaded(Sketch.staying(latches, 0, 1)).bound(), NONE);
        }
    }

    /** "K grows by 1, and R is START alone again". */
    private static void boundGrowsByOne() {
        // 0 and 2 stay, 1 goes to 3, which is bad. Widened by latch 0 one gets to {0, 1}, and
        // from there to 3; with K = 2 latch 0 is kept and latch 1 let go.
        CircuitProver x = Check.loaded("aag 4 0 2 1 2\n2 2\n4 7\n8\n6 5 3\n8 4 2\n");
        int[] goes = {0, 3, 2, 3};
        for (int state = 0; state < 4; state++) {
            Check.same("go", x.go(state, 0), goes[state]);
        }
        Answers.safe(x, 2, 4, 0b0101L);
        Answers.sets(x, new int[] {2, 1, 1, 2}, new int[] {1, 2, 2, 1});
    }

    /**
     * With n latches NEAR(K) has the K highest states, and each K but the last is left: K goes
     * through 1 .. 2^n - 1, which for 6 latches is as far as it can go.
     */
    private static void highestBounds() {
        for (int n = 1; n <= 6; n++) {
            int states = 1 << n;
            CircuitProver x = Check.loaded(Sketch.counterThatStaysAtZero(n, 0));
            Answers.safe(x, states - 1, (states >> 1) * (n + 2) - 2, 0b1L);
            Answers.sets(x, new int[] {1, 1, 1, states - 1}, new int[] {n, n, n, n});
            for (int start = 1; start < states; start++) {
                x = Check.loaded(Sketch.counterThatStaysAtZero(n, start));
                Answers.unsafe(x, new int[states - start]);
                Check.same("reached", x.count(1), states - start + 1);
            }
        }
    }

    /** "How many rounds the PROOF took, the last one with them": the first can be the last. */
    private static void lastRoundIsCounted() {
        Answers.safe(Check.loaded(Sketch.staying(0, 0, 0)), 1, 1, 0b1L);
        Answers.safe(Check.loaded(Sketch.staying(1, 0, 2)), 1, 1, 0b1L);
        Answers.safe(Check.loaded(Sketch.staying(1, 0, 0)), 1, 2, 0b11L);
        // 0 goes to 1 and 1 to 2, which stays; 3 is bad. The first piece is {0, 1}, the second
        // one {1, 2}, and the third round has nothing new.
        CircuitProver x = Check.loaded("aag 5 0 2 1 3\n2 6\n4 9\n10\n6 3 5\n8 3 5\n10 2 4\n");
        int[] goes = {1, 2, 2, 2};
        for (int state = 0; state < 4; state++) {
            Check.same("go", x.go(state, 0), goes[state]);
        }
        Answers.safe(x, 1, 3, 0b0111L);
        Answers.sets(x, new int[] {3, 3, 1, 1}, new int[] {2, 2, 2, 2});
    }

    /** "for each latch, 0 first": letting go of one latch can forbid it for the next. */
    private static void latchZeroFirst() {
        for (int start = 0; start < 3; start++) {
            // All stay, 3 is bad: {0} widens to {0, 1}, {1} too, {2} to {0, 2} by latch 1.
            CircuitProver x = Check.loaded("aag 3 0 2 1 1\n2 2" + (start == 1 ? " 1" : "")
                    + "\n4 4" + (start == 2 ? " 1" : "") + "\n6\n6 2 4\n");
            long invariant = start == 2 ? 0b0101L : 0b0011L;
            Answers.safe(x, 1, 2, invariant);
            Answers.sets(x, new int[] {2, 1, 1, 1}, new int[] {1, 2, 2, 2});
        }
    }

    /** "has no state of NEAR(K)": of the lowest and of the highest state, each latch in turn. */
    private static void oneLatchIsKept() {
        for (int latches = 1; latches <= 6; latches++) {
            for (int kept = 0; kept < latches; kept++) {
                for (int start : new int[] {0, (1 << latches) - 1}) {
                    Sketch sketch = new Sketch();
                    int[] latch = sketch.latches(latches, start);
                    int bad = isState(sketch, latch, start ^ 1 << kept);
                    long invariant = 0;
                    for (int state = 0; state < 1 << latches; state++) {
                        invariant |= ((state ^ start) >> kept & 1) == 0 ? 1L << state : 0;
                    }
                    CircuitProver x = Check.loaded(sketch.text(bad));
                    Answers.safe(x, 1, latches == 1 ? 1 : 2, invariant);
                    Answers.sets(x, new int[] {1 << latches - 1, 1, 1, 1},
                            new int[] {1, latches, latches, latches});
                }
            }
        }
    }

    /** A literal that is 1 in this state alone. */
    private static int isState(Sketch sketch, int[] latch, int state) {
        int here = latch[0] ^ ~state & 1;
        for (int j = 1; j < latch.length; j++) {
            here = sketch.and(here, latch[j] ^ ~(state >> j) & 1);
        }
        return here;
    }

    /** "Whether a state is in the INVARIANT; false also if there is no such state". */
    private static void allStatesHold() {
        for (int latches = 0; latches <= 6; latches++) {
            int states = 1 << latches;
            CircuitProver x = Check.loaded(Sketch.staying(latches, 0, 0));
            Answers.safe(x, 1, latches == 0 ? 1 : 2, -1L >>> 64 - states);
            for (int state : new int[] {states, states + 1, -1, -states, 64, 128, 256, -256,
                Integer.MIN_VALUE, Integer.MAX_VALUE}) {
                Check.same("holds(" + state + ")", x.holds(state), false);
                Check.same("holds of the last", x.holds(states - 1), true);
                Check.same("holds of the first", x.holds(0), true);
            }
            Answers.sets(x, new int[] {states, 1, 0, 0}, new int[] {0, latches, 0, 0});
        }
    }

    /** Every state but START is BAD, so that no latch can be let go. */
    private static void oneStateHolds() {
        for (int latches = 1; latches <= 6; latches++) {
            int states = 1 << latches;
            for (int start : new int[] {0, states - 1, 0x2A & states - 1}) {
                Sketch sketch = new Sketch();
                int[] latch = sketch.latches(latches, start);
                int here = isState(sketch, latch, start);
                CircuitProver x = Check.loaded(sketch.text(Sketch.not(here)));
                Answers.safe(x, 1, 1, 1L << start);
                Answers.sets(x, new int[] {1, 1, states - 1, states - 1},
                        new int[] {latches, latches, latches, latches});
            }
        }
    }

    /** "0: the INVARIANT (NONE if the circuit is UNSAFE), 1 .. 2 .. 3 .. NONE for any other". */
    private static void emptyAndFullSets() {
        CircuitProver safe = Check.loaded(Sketch.staying(6, 63, 0));
        Answers.sets(safe, new int[] {64, 1, 0, 0}, new int[] {0, 6, 0, 0});
        CircuitProver unsafe = Check.loaded(Sketch.staying(6, 63, 1));
        Answers.sets(unsafe, new int[] {NONE, 1, 64, 64}, new int[] {NONE, 6, 0, 0});
        CircuitProver all = Check.loaded(Sketch.counter(0));
        Answers.sets(all, new int[] {NONE, 64, 1, 64}, new int[] {NONE, 0, 6, 0});
        CircuitProver turns = Check.loaded("aag 1 0 1 1 0\n2 3\n0\n");
        Answers.sets(turns, new int[] {2, 2, 0, 0}, new int[] {0, 0, 0, 0});
        CircuitProver turnsBad = Check.loaded("aag 1 0 1 1 0\n2 3\n2\n");
        Answers.sets(turnsBad, new int[] {NONE, 2, 1, 2}, new int[] {NONE, 0, 1, 0});
    }

    /** "how many different functions .. as far as they hang on latch j, for all j together". */
    private static void sizesOfSets() {
        for (int n = 1; n <= 6; n++) {
            Sketch sketch = new Sketch();
            int[] latch = sketch.latches(n, 0);
            int odd = latch[0];
            for (int j = 1; j < n; j++) {
                odd = sketch.xor(odd, latch[j]);
            }
            // Latch 0 has one function, each other one two, which are each other's negation.
            CircuitProver x = Check.loaded(sketch.text(odd));
            Check.same("size of the odd states", x.size(2), 2 * n - 1);
            Check.same("count of the odd states", x.count(2), 1 << n - 1);
            x = Check.loaded(sketch.text(Sketch.not(odd)));
            Check.same("size of the even states", x.size(2), 2 * n - 1);
        }
        for (int j = 0; j < 6; j++) {
            // One latch alone is one function, whichever latch it is.
            CircuitProver x = Check.loaded(Sketch.staying(6, 0, 2 * j + 2));
            Check.same("size of a latch", x.size(2), 1);
            Check.same("count of a latch", x.count(2), 32);
            x = Check.loaded(Sketch.staying(6, 0, 2 * j + 3));
            Check.same("size of a negated latch", x.size(2), 1);
        }
        // Latch 0 chooses between latch 1 and latch 2: j = 1 and j = 2 have one each.
        CircuitProver x = Check.loaded(
                "aag 6 0 3 1 3\n2 2\n4 4\n6 6\n13\n8 2 5\n10 3 7\n12 9 11\n");
        Check.same("size of a choice", x.size(2), 3);
        Check.same("count of a choice", x.count(2), 4);
    }

    /**
     * A set of states of six latches with as many functions as there can be: 1, 2, 4 and 8 for the
     * first four latches, then the 12 of two latches that hang on the first of them, and 2.
     */
    private static void largestSize() {
        int[][] gates = {
            {12, 4}, {2, 12}, {13, 8}, {13, 6}, {19, 13}, {11, 19}, {24, 17}, {5, 6}, {20, 26},
            {28, 22}, {11, 16}, {27, 35}, {35, 31}, {20, 23}, {3, 27}, {15, 21}, {4, 37}, {44, 25},
            {43, 24}, {38, 49}
        };
        Sketch sketch = new Sketch();
        sketch.latches(6, 0);
        int last = 0;
        for (int[] gate : gates) {
            last = sketch.and(gate[0], gate[1]);
        }
        String text = sketch.text(last);
        CircuitProver x = Check.loaded(text);
        Check.same("A", x.circuit(4), 20);
        Check.same("size of the bad states", x.size(2), 29);
        Check.same("size of those from which they are reached", x.size(3), 29);
        Finding due = new Finding(Model.read(text));
        Check.same("size by the model", due.size(due.bad, 6), 29);
        Check.same("count of the bad states", x.count(2), due.bad.size());
        Check.same("size of the others", Check.loaded(sketch.text(Sketch.not(last))).size(2), 29);
    }

    /** "this is the circuit from now on": a safe one after an unsafe one, and the other way. */
    private static void noneIsLeftOfTheCircuitBefore() {
        List<String> texts = new ArrayList<>();
        texts.add(Sketch.counterWithInputFive());
        texts.add(Sketch.staying(0, 0, 0));
        texts.add(Sketch.counterThatStaysAtZero(6, 0));
        texts.add(Sketch.staying(0, 0, 1));
        texts.add(Sketch.staying(6, 63, 0));
        texts.add(Sketch.counter(60));
        for (String before : texts) {
            for (String text : texts) {
                CircuitProver x = Check.loaded(before);
                Check.typeAll(x, text);
                Check.same("before the load", x.safe(), Check.loaded(before).safe());
                x.load();
                Check.same("after the load", Picture.of(x), Picture.of(Check.loaded(text)));
            }
        }
    }

    /** "A call that answers false or NONE, or throws, changes nothing." */
    private static void wrongQuestionsChangeNothing() {
        int[] wrong = {Integer.MIN_VALUE, -65, -64, -1, 64, 65, 1 << 30, Integer.MAX_VALUE};
        for (String text : new String[] {Sketch.staying(6, 63, 0), Sketch.counter(61),
            Sketch.counterWithInputFive(), Sketch.staying(0, 0, 0)}) {
            CircuitProver x = Check.loaded(text);
            String picture = Picture.of(x);
            String none = Integer.toString(NONE);
            for (int n : wrong) {
                Check.same("circuit", Check.answer(() -> x.circuit(n)), none);
                Check.same("go", Check.answer(() -> x.go(n, 0)), "IndexOutOfBoundsException");
                Check.same("go", Check.answer(() -> x.go(0, n)), "IndexOutOfBoundsException");
                Check.same("output", Check.answer(() -> x.output(n, 0) ? 1 : 0),
                        "IndexOutOfBoundsException");
                Check.same("output", Check.answer(() -> x.output(0, n) ? 1 : 0),
                        "IndexOutOfBoundsException");
                Check.same("witness", Check.answer(() -> x.witness(n)), none);
                Check.same("holds", Check.answer(() -> x.holds(n) ? 1 : 0), "0");
                Check.same("count", Check.answer(() -> x.count(n)), none);
                Check.same("size", Check.answer(() -> x.size(n)), none);
                Check.same("type", x.type(-1L), false);
                Check.same("load", Check.load(x), Loads.NO_CIRCUIT);
            }
            Check.same("after wrong questions", Picture.of(x), picture);
        }
    }
}
