import java.util.ArrayList;
import java.util.List;

/** Puts the text of a circuit together; inputs and latches are asked for before the first gate. */
final class Sketch {
    private final List<Integer> inputs = new ArrayList<>();
    private final List<Integer> latches = new ArrayList<>();
    private final List<Integer> firsts = new ArrayList<>();
    private final List<Integer> nexts = new ArrayList<>();
    private final List<String> gates = new ArrayList<>();
    private int variables = 0;

    int input() {
        variables++;
        inputs.add(2 * variables);
        return 2 * variables;
    }

    /** A latch that stays as it is until it is told otherwise. */
    int latch(int first) {
        variables++;
        latches.add(2 * variables);
        nexts.add(2 * variables);
        firsts.add(first);
        return 2 * variables;
    }

    /** As many latches as asked for; their first values are the bits of a state. */
    int[] latches(int many, int start) {
        int[] all = new int[many];
        for (int j = 0; j < many; j++) {
            all[j] = latch(start >> j & 1);
        }
        return all;
    }

    void next(int latch, int literal) {
        nexts.set(latches.indexOf(latch), literal);
    }

    int and(int left, int right) {
        variables++;
        gates.add(2 * variables + " " + left + " " + right + "\n");
        return 2 * variables;
    }

    int xor(int left, int right) {
        return and(not(and(left, right)), not(and(not(left), not(right))));
    }

    static int not(int literal) {
        return literal ^ 1;
    }

    int gateCount() {
        return gates.size();
    }

    String text(int output) {
        StringBuilder text = new StringBuilder("aag " + variables + " " + inputs.size() + " "
                + latches.size() + " 1 " + gates.size() + "\n");
        for (int literal : inputs) {
            text.append(literal).append('\n');
        }
        for (int j = 0; j < latches.size(); j++) {
            text.append(latches.get(j)).append(' ').append(nexts.get(j));
            text.append(firsts.get(j) == 1 ? " 1\n" : "\n");
        }
        return text.append(output).append('\n').append(String.join("", gates)).toString();
    }

    /** Latches that stay as they are, without inputs. */
    static String staying(int latches, int start, int output) {
        Sketch sketch = new Sketch();
        sketch.latches(latches, start);
        return sketch.text(output);
    }

    /** Six latches that count up; the output is 1 at 63. */
    static String counter(int start) {
        Sketch sketch = new Sketch();
        int[] latch = sketch.latches(6, start);
        sketch.next(latch[0], not(latch[0]));
        return sketch.text(sketch.countUp(latch, latch[0]));
    }

    /** The same, but one goes on (and the output is 1) with input 5 alone; it has 20 gates. */
    static String counterWithInputFive() {
        Sketch sketch = new Sketch();
        int[] input = {sketch.input(), sketch.input(), sketch.input()};
        int[] latch = sketch.latches(6, 0);
        int five = sketch.and(sketch.and(input[0], not(input[1])), input[2]);
        int both = sketch.and(latch[0], five);
        sketch.next(latch[0], sketch.and(not(both), not(sketch.and(not(latch[0]), not(five)))));
        return sketch.text(sketch.countUp(latch, both));
    }

    /**
     * Latches that count up to the highest state, which is bad, but stay at 0: there is no way from
     * 0 to 1, and NEAR(K) has the K highest states.
     */
    static String counterThatStaysAtZero(int latches, int start) {
        Sketch sketch = new Sketch();
        int[] latch = sketch.latches(latches, start);
        int othersAreZero = 1;
        for (int j = 1; j < latches; j++) {
            othersAreZero = j == 1 ? not(latch[j]) : sketch.and(othersAreZero, not(latch[j]));
        }
        sketch.next(latch[0], sketch.and(not(latch[0]), not(othersAreZero)));
        return sketch.text(sketch.countUp(latch, latch[0]));
    }

    /** The latches from 1 on count up where the carry is 1; answers the last carry. */
    private int countUp(int[] latch, int firstCarry) {
        int carry = firstCarry;
        for (int j = 1; j < latch.length; j++) {
            int both = and(latch[j], carry);
            next(latch[j], and(not(both), not(and(not(latch[j]), not(carry)))));
            carry = both;
        }
        return carry;
    }
}
