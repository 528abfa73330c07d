/** All that is due of a safe and of an unsafe circuit, with what stands on both sides of it. */
final class Answers {
    private static final int NONE = CircuitProver.NONE;

    private Answers() {}

    static void sets(CircuitProver x, int[] counts, int[] sizes) {
        for (int which = 0; which < 4; which++) {
            Check.same("count(" + which + ")", x.count(which), counts[which]);
            Check.same("size(" + which + ")", x.size(which), sizes[which]);
        }
        for (int which : new int[] {-1, 4, 5, Integer.MIN_VALUE, Integer.MAX_VALUE}) {
            Check.same("count(" + which + ")", x.count(which), NONE);
            Check.same("size(" + which + ")", x.size(which), NONE);
        }
    }

    static void unsafe(CircuitProver x, int... witness) {
        Check.same("safe", x.safe(), false);
        Check.same("depth", x.depth(), witness.length - 1);
        for (int k = 0; k < witness.length; k++) {
            Check.same("witness(" + k + ")", x.witness(k), witness[k]);
        }
        for (int k : new int[] {-1, witness.length, Integer.MIN_VALUE, Integer.MAX_VALUE}) {
            Check.same("witness(" + k + ")", x.witness(k), NONE);
        }
        Check.same("bound", x.bound(), NONE);
        Check.same("rounds", x.rounds(), NONE);
        for (int state = -1; state <= 64; state++) {
            Check.same("holds(" + state + ")", x.holds(state), false);
        }
    }

    static void safe(CircuitProver x, int bound, int rounds, long invariant) {
        Check.same("safe", x.safe(), true);
        Check.same("depth", x.depth(), NONE);
        for (int k = -1; k < 3; k++) {
            Check.same("witness(" + k + ")", x.witness(k), NONE);
        }
        Check.same("bound", x.bound(), bound);
        Check.same("rounds", x.rounds(), rounds);
        for (int state = 0; state < 64; state++) {
            Check.same("holds(" + state + ")", x.holds(state), (invariant >>> state & 1) != 0);
        }
        for (int state : new int[] {-1, -64, 64, 65, 128, Integer.MIN_VALUE, Integer.MAX_VALUE}) {
            Check.same("holds(" + state + ")", x.holds(state), false);
        }
    }
}
