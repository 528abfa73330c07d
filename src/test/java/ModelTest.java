import java.util.ArrayList;
import java.util.Collections;
import java.util.List;
import java.util.Random;
import java.util.Set;

/**
 * Compares the program with a slow model that follows the document word by word, on made-up
 * circuits (always the same ones) and on their texts with a few characters changed.
 */
final class ModelTest {
    private static final int CIRCUITS = 3000;
    private static final int CHANGED = 40000;

    public static void main(String[] args) {
        Random random = new Random(20261115L);
        String before = "aag 0 0 0 1 0\n1\n";
        int deepest = 0;
        int highestBound = 0;
        int mostRounds = 0;
        int safe = 0;
        for (int n = 0; n < CIRCUITS; n++) {
            String text = circuit(random);
            Model model = Model.read(text);
            // The circuit before stays in the object, so that nothing of it may be left over.
            CircuitProver x = Check.loaded(before);
            Check.typeAll(x, text);
            Check.same("load of " + text, Check.load(x), Integer.toString(model.latches.size()));
            Finding due = new Finding(model);
            compareSteps(model, text);
            compare(x, model, due, text);
            before = text;
            deepest = Math.max(deepest, due.depth);
            highestBound = Math.max(highestBound, due.bound);
            mostRounds = Math.max(mostRounds, due.rounds);
            safe += due.depth < 0 ? 1 : 0;
        }
        System.out.println("safe " + safe + " of " + CIRCUITS + ", depth up to " + deepest
                + ", bound up to " + highestBound + ", rounds up to " + mostRounds);
        Check.same("the circuits are of all kinds", safe > CIRCUITS / 5 && safe < CIRCUITS * 4 / 5
                && deepest > 8 && highestBound > 4 && mostRounds > 12, true);
        changedTexts(random);
        Check.end("ModelTest");
    }

    /** An object answers 512 calls, so that every few states have an object of their own. */
    private static void compareSteps(Model model, String text) {
        CircuitProver x = null;
        for (int s = 0; s < model.states(); s++) {
            x = s % 16 == 0 ? Check.loaded(text) : x;
            for (int i = 0; i < model.inputCount(); i++) {
                Check.same("go of " + text, x.go(s, i), model.go(s, i));
                Check.same("output of " + text, x.output(s, i), model.output(s, i));
            }
        }
    }

    private static void compare(CircuitProver x, Model model, Finding due, String text) {
        for (int w = 0; w < 5; w++) {
            Check.same("circuit(" + w + ") of " + text, x.circuit(w), model.header[w]);
        }
        Check.same("START of " + text, x.circuit(5), model.start());
        for (int s = 0; s < model.states(); s++) {
            Check.same("holds of " + text, x.holds(s), due.invariant.contains(s));
        }
        Check.same("safe of " + text, x.safe(), due.depth < 0);
        Check.same("depth of " + text, x.depth(), due.depth);
        Check.same("bound of " + text, x.bound(), due.bound);
        Check.same("rounds of " + text, x.rounds(), due.rounds);
        for (int k = 0; k <= due.witness.size(); k++) {
            Check.same("witness of " + text, x.witness(k),
                    k < due.witness.size() ? due.witness.get(k) : -1);
        }
        List<Set<Integer>> sets = List.of(due.invariant, due.reached, due.bad, due.doomed);
        for (int k = 0; k < 4; k++) {
            boolean none = k == 0 && due.depth >= 0;
            Check.same("count(" + k + ") of " + text, x.count(k), none ? -1 : sets.get(k).size());
            Check.same("size(" + k + ") of " + text, x.size(k),
                    none ? -1 : due.size(sets.get(k), model.latches.size()));
        }
    }

    /**
     * Half of the texts shift their latches along, so that there are long ways; half join their
     * last gates to the output, so that few states are bad and more circuits are safe.
     */
    private static String circuit(Random random) {
        int inputs = random.nextInt(4);
        int latches = random.nextInt(8) == 0 ? random.nextInt(7) : 3 + random.nextInt(4);
        int gates = random.nextInt(21);
        int most = Math.min(49, inputs + latches + gates + random.nextInt(4));
        List<Integer> used = variables(random, inputs + latches + gates, most);
        List<Integer> own = new ArrayList<>(used.subList(inputs + latches, used.size()));
        boolean shifts = random.nextBoolean();
        boolean joins = random.nextBoolean() && gates > 0;
        StringBuilder text = new StringBuilder("aag " + most + " " + inputs + " " + latches);
        text.append(" 1 ").append(gates).append('\n');
        for (int k = 0; k < inputs; k++) {
            text.append(2 * used.get(k)).append('\n');
        }
        for (int k = 0; k < latches; k++) {
            int next = shifts && k > 0 && random.nextInt(9) != 0
                    ? 2 * used.get(inputs + k - 1) : literal(random, used, 100);
            text.append(2 * used.get(inputs + k)).append(' ').append(next);
            int first = random.nextInt(6);
            text.append(first == 0 ? " 1" : first < 3 ? " 0" : "").append('\n');
        }
        int output = joins ? 2 * own.get(gates - 1) : literal(random, used, 100);
        text.append(output).append('\n').append(gateLines(random, used, own, latches, joins));
        return text.toString();
    }

    private static List<Integer> variables(Random random, int needed, int most) {
        List<Integer> variables = new ArrayList<>();
        for (int v = 1; v <= most; v++) {
            variables.add(v);
        }
        if (random.nextInt(3) == 0) {
            Collections.shuffle(variables, random);
        }
        return variables.subList(0, needed);
    }

    private static String gateLines(Random random, List<Integer> used, List<Integer> own,
            int latches, boolean joins) {
        List<Integer> latchVariables = used.subList(used.size() - own.size() - latches,
                used.size() - own.size());
        List<String> lines = new ArrayList<>();
        for (int k = 0; k < own.size(); k++) {
            int gate = 2 * own.get(k);
            int left = literal(random, used, gate);
            int right = literal(random, used, gate);
            if (joins && k >= own.size() - latches + 1) {
                left = literal(random, latchVariables, gate);
                right = k > 0 && own.get(k - 1) < own.get(k) ? 2 * own.get(k - 1) : right;
            }
            lines.add(gate + " " + left + " " + right + "\n");
        }
        if (random.nextBoolean()) {
            Collections.shuffle(lines, random);
        }
        return String.join("", lines);
    }

    private static int literal(Random random, List<Integer> used, int below) {
        for (int k = 0; k < 20 && !used.isEmpty(); k++) {
            int literal = 2 * used.get(random.nextInt(used.size())) + random.nextInt(2);
            if (literal < below && random.nextInt(40) != 0) {
                return literal;
            }
        }
        return random.nextInt(2);
    }

    private static void changedTexts(Random random) {
        String letters = "0123456789  \n\nag";
        int[] kinds = new int[3];
        for (int n = 0; n < CHANGED; n++) {
            StringBuilder text = new StringBuilder(n % 2 == 0 ? circuit(random) : shortCircuit(random));
            for (int changes = random.nextInt(3); changes >= 0; changes--) {
                int at = random.nextInt(text.length());
                char letter = letters.charAt(random.nextInt(letters.length()));
                int how = random.nextInt(4);
                if (how == 0) {
                    text.deleteCharAt(at);
                } else if (how == 1) {
                    text.insert(at, letter);
                } else {
                    text.setCharAt(at, letter);
                }
            }
            if (text.length() <= 400) {
                kinds[kindOf(text.toString())]++;
            }
        }
        System.out.println("changed texts: " + kinds[0] + " circuits, " + kinds[1] + " not small, "
                + kinds[2] + " none");
        Check.same("all kinds of texts", kinds[0] > 100 && kinds[1] > 20 && kinds[2] > 100, true);
    }

    private static String shortCircuit(Random random) {
        int outputs = random.nextInt(3);
        StringBuilder text = new StringBuilder("aag 3 1 1 " + outputs + " 1\n2\n4 6\n");
        for (int k = 0; k < outputs; k++) {
            text.append(random.nextInt(8)).append('\n');
        }
        return text.append("6 3 4\n").toString();
    }

    private static int kindOf(String text) {
        Model model = Model.read(text);
        String due = model == null ? "IllegalArgumentException"
                : model.isSmall() ? Integer.toString(model.latches.size())
                : "UnsupportedOperationException";
        CircuitProver x = new CircuitProver();
        Check.typeAll(x, text);
        Check.same("load of " + text.replace("\n", "\\n"), Check.load(x), due);
        return model == null ? 2 : model.isSmall() ? 0 : 1;
    }
}
