import java.util.List;
import java.util.Random;
import java.util.Set;

/**
 * Compares the program with a slow model that follows the document word by word, on made-up
 * circuits (always the same ones) and on their texts with a few characters changed.
 */
final class ModelTest {
    private static final int CIRCUITS = 3000;
    private static final int CHANGED = 40000;

    public static void main(String[] args) {
        Random random = new Random(20261115L);
        String before = "aag 0 0 0 1 0\n1\n";
        int deepest = 0;
        int highestBound = 0;
        int mostRounds = 0;
        int safe = 0;
        for (int n = 0; n < CIRCUITS; n++) {
            String text = MadeUp.circuit(random);
            Model model = Model.read(text);
            // The circuit before stays in the object, so that nothing of it may be left over.
            CircuitProver x = Check.loaded(before);
            Check.typeAll(x, text);
            Check.same("load of " + text, Check.load(x), Integer.toString(model.latches.size()));
            Finding due = new Finding(model);
            compareSteps(model, text);
            compare(x, model, due, text);
            before = text;
            deepest = Math.max(deepest, due.depth);
            highestBound = Math.max(highestBound, due.bound);
            mostRounds = Math.max(mostRounds, due.rounds);
            safe += due.depth < 0 ? 1 : 0;
        }
        System.out.println("safe " + safe + " of " + CIRCUITS + ", depth up to " + deepest
                + ", bound up to " + highestBound + ", rounds up to " + mostRounds);
        Check.same("the circuits are of all kinds", safe > CIRCUITS / 5 && safe < CIRCUITS * 4 / 5
                && deepest > 8 && highestBound > 4 && mostRounds > 12, true);
        changedTexts(random);
        Check.end("ModelTest");
    }

    /** An object answers 512 calls, so that every few states have an object of their own. */
    private static void compareSteps(Model model, String text) {
        CircuitProver x = null;
        for (int s = 0; s < model.states(); s++) {
            x = s % 16 == 0 ? Check.loaded(text) : x;
            for (int i = 0; i < model.inputCount(); i++) {
                Check.same("go of " + text, x.go(s, i), model.go(s, i));
                Check.same("output of " + text, x.output(s, i), model.output(s, i));
            }
        }
    }

    private static void compare(CircuitProver x, Model model, Finding due, String text) {
        for (int w = 0; w < 5; w++) {
            Check.same("circuit(" + w + ") of " + text, x.circuit(w), model.header[w]);
        }
        Check.same("START of " + text, x.circuit(5), model.start());
        for (int s = 0; s < model.states(); s++) {
            Check.same("holds of " + text, x.holds(s), due.invariant.contains(s));
        }
        Check.same("safe of " + text, x.safe(), due.depth < 0);
        Check.same("depth of " + text, x.depth(), due.depth);
        Check.same("bound of " + text, x.bound(), due.bound);
        Check.same("rounds of " + text, x.rounds(), due.rounds);
        for (int k = 0; k <= due.witness.size(); k++) {
            Check.same("witness of " + text, x.witness(k),
                    k < due.witness.size() ? due.witness.get(k) : -1);
        }
        List<Set<Integer>> sets = List.of(due.invariant, due.reached, due.bad, due.doomed);
        for (int k = 0; k < 4; k++) {
            boolean none = k == 0 && due.depth >= 0;
            Check.same("count(" + k + ") of " + text, x.count(k), none ? -1 : sets.get(k).size());
            Check.same("size(" + k + ") of " + text, x.size(k),
                    none ? -1 : due.size(sets.get(k), model.latches.size()));
        }
    }

    private static void changedTexts(Random random) {
        int[] kinds = new int[3];
        for (int n = 0; n < CHANGED; n++) {
            String text = MadeUp.changed(random,
                    n % 2 == 0 ? MadeUp.circuit(random) : MadeUp.shortCircuit(random));
            if (text.length() <= 400) {
                kinds[kindOf(text)]++;
            }
        }
        System.out.println("changed texts: " + kinds[0] + " circuits, " + kinds[1] + " not small, "
                + kinds[2] + " none");
        Check.same("all kinds of texts", kinds[0] > 100 && kinds[1] > 20 && kinds[2] > 100, true);
    }

    private static int kindOf(String text) {
        Model model = Model.read(text);
        String due = model == null ? "IllegalArgumentException"
                : model.isSmall() ? Integer.toString(model.latches.size())
                : "UnsupportedOperationException";
        CircuitProver x = new CircuitProver();
        Check.typeAll(x, text);
        Check.same("load of " + text.replace("\n", "\\n"), Check.load(x), due);
        return model == null ? 2 : model.isSmall() ? 0 : 1;
    }
}
