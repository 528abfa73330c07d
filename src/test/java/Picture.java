import java.util.function.IntSupplier;

/**
 * What an object answers to some sixty calls, the wrong ones among them, as one text: two pictures
 * that are the same show that nothing has changed in between.
 */
final class Picture {
    private final StringBuilder all = new StringBuilder();

    private Picture() {}

    static String of(CircuitProver x) {
        Picture picture = new Picture();
        picture.add("length", x::length);
        picture.addCircuit(x);
        picture.addSteps(x);
        picture.addAnswer(x);
        picture.addSets(x);
        return picture.all.toString();
    }

    private void add(String name, IntSupplier call) {
        all.append(name).append(' ').append(Check.answer(call)).append('\n');
    }

    private void addCircuit(CircuitProver x) {
        for (int w = -1; w <= 6; w++) {
            int at = w;
            add("circuit " + w, () -> x.circuit(at));
        }
    }

    private void addSteps(CircuitProver x) {
        int[][] places = {{0, 0}, {1, 0}, {0, 1}, {3, 3}, {63, 7}, {-1, 0}, {0, -1}};
        for (int[] at : places) {
            add("go " + at[0] + " " + at[1], () -> x.go(at[0], at[1]));
            add("output " + at[0] + " " + at[1], () -> x.output(at[0], at[1]) ? 1 : 0);
        }
    }

    private void addAnswer(CircuitProver x) {
        add("safe", () -> x.safe() ? 1 : 0);
        add("depth", x::depth);
        add("bound", x::bound);
        add("rounds", x::rounds);
        for (int k = -1; k <= 4; k++) {
            int at = k;
            add("witness " + k, () -> x.witness(at));
        }
        for (int state : new int[] {-1, 0, 1, 2, 3, 4, 63, 64}) {
            add("holds " + state, () -> x.holds(state) ? 1 : 0);
        }
    }

    private void addSets(CircuitProver x) {
        for (int which = -1; which <= 4; which++) {
            int at = which;
            add("count " + which, () -> x.count(at));
            add("size " + which, () -> x.size(at));
        }
    }
}
