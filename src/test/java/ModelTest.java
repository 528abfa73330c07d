import java.util.ArrayList;
import java.util.Collections;
import java.util.HashSet;
import java.util.List;
import java.util.Random;
import java.util.Set;
import java.util.TreeSet;

/**
 * Compares the program with a slow model that follows the document word by word, on made-up
 * circuits (always the same ones) and on their texts with a few characters changed.
 */
final class ModelTest {
    private static final int CIRCUITS = 3000;
    private static final int CHANGED = 40000;

    public static void main(String[] args) {
        Random random = new Random(20261115L);
        String before = "aag 0 0 0 1 0\n1\n";
        int deepest = 0;
        int highestBound = 0;
        int mostRounds = 0;
        int safe = 0;
        for (int n = 0; n < CIRCUITS; n++) {
            String text = circuit(random);
            Model model = Model.read(text);
            // The circuit before stays in the object, so that nothing of it may be left over.
            CircuitProver x = Check.loaded(before);
            Check.typeAll(x, text);
            Check.same("load of " + text, Check.load(x), Integer.toString(model.latches.size()));
            Finding due = new Finding(model);
            compareSteps(model, text);
            compare(x, model, due, text);
            before = text;
            deepest = Math.max(deepest, due.depth);
            highestBound = Math.max(highestBound, due.bound);
            mostRounds = Math.max(mostRounds, due.rounds);
            safe += due.depth < 0 ? 1 : 0;
        }
        System.out.println("safe " + safe + " of " + CIRCUITS + ", depth up to " + deepest
                + ", bound up to " + highestBound + ", rounds up to " + mostRounds);
        Check.same("the circuits are of all kinds", safe > CIRCUITS / 5 && safe < CIRCUITS * 4 / 5
                && deepest > 8 && highestBound > 4 && mostRounds > 12, true);
        changedTexts(random);
        Check.end("ModelTest");
    }

    /** An object answers 512 calls, so that every few states have an object of their own. */
    private static void compareSteps(Model model, String text) {
        CircuitProver x = null;
        for (int s = 0; s < model.states(); s++) {
            x = s % 16 == 0 ? Check.loaded(text) : x;
            for (int i = 0; i < model.inputCount(); i++) {
                Check.same("go of " + text, x.go(s, i), model.go(s, i));
                Check.same("output of " + text, x.output(s, i), model.output(s, i));
            }
        }
    }

    private static void compare(CircuitProver x, Model model, Finding due, String text) {
        for (int w = 0; w < 5; w++) {
            Check.same("circuit(" + w + ") of " + text, x.circuit(w), model.header[w]);
        }
        Check.same("START of " + text, x.circuit(5), model.start());
        for (int s = 0; s < model.states(); s++) {
            Check.same("holds of " + text, x.holds(s), due.invariant.contains(s));
        }
        Check.same("safe of " + text, x.safe(), due.depth < 0);
        Check.same("depth of " + text, x.depth(), due.depth);
        Check.same("bound of " + text, x.bound(), due.bound);
        Check.same("rounds of " + text, x.rounds(), due.rounds);
        for (int k = 0; k <= due.witness.size(); k++) {
            Check.same("witness of " + text, x.witness(k),
                    k < due.witness.size() ? due.witness.get(k) : -1);
        }
        List<Set<Integer>> sets = List.of(due.invariant, due.reached, due.bad, due.doomed);
        for (int k = 0; k < 4; k++) {
            boolean none = k == 0 && due.depth >= 0;
            Check.same("count(" + k + ") of " + text, x.count(k), none ? -1 : sets.get(k).size());
            Check.same("size(" + k + ") of " + text, x.size(k),
                    none ? -1 : due.size(sets.get(k), model.latches.size()));
        }
    }

    /**
     * Half of the texts shift their latches along, so that there are long ways; half join their
     * last gates to the output, so that few states are bad and more circuits are safe.
     */
    private static String circuit(Random random) {
        int inputs = random.nextInt(4);
        int latches = random.nextInt(8) == 0 ? random.nextInt(7) : 3 + random.nextInt(4);
        int gates = random.nextInt(21);
        int most = Math.min(49, inputs + latches + gates + random.nextInt(4));
        List<Integer> used = variables(random, inputs + latches + gates, most);
        List<Integer> own = new ArrayList<>(used.subList(inputs + latches, used.size()));
        boolean shifts = random.nextBoolean();
        boolean joins = random.nextBoolean() && gates > 0;
        StringBuilder text = new StringBuilder("aag " + most + " " + inputs + " " + latches);
        text.append(" 1 ").append(gates).append('\n');
        for (int k = 0; k < inputs; k++) {
            text.append(2 * used.get(k)).append('\n');
        }
        for (int k = 0; k < latches; k++) {
            int next = shifts && k > 0 && random.nextInt(9) != 0
                    ? 2 * used.get(inputs + k - 1) : literal(random, used, 100);
            text.append(2 * used.get(inputs + k)).append(' ').append(next);
            int first = random.nextInt(6);
            text.append(first == 0 ? " 1" : first < 3 ? " 0" : "").append('\n');
        }
        int output = joins ? 2 * own.get(gates - 1) : literal(random, used, 100);
        text.append(output).append('\n').append(gateLines(random, used, own, latches, joins));
        return text.toString();
    }

    private static List<Integer> variables(Random random, int needed, int most) {
        List<Integer> variables = new ArrayList<>();
        for (int v = 1; v <= most; v++) {
            variables.add(v);
        }
        if (random.nextInt(3) == 0) {
            Collections.shuffle(variables, random);
        }
        return variables.subList(0, needed);
    }

    private static String gateLines(Random random, List<Integer> used, List<Integer> own,
            int latches, boolean joins) {
        List<Integer> latchVariables = used.subList(used.size() - own.size() - latches,
                used.size() - own.size());
        List<String> lines = new ArrayList<>();
        for (int k = 0; k < own.size(); k++) {
            int gate = 2 * own.get(k);
            int left = literal(random, used, gate);
            int right = literal(random, used, gate);
            if (joins && k >= own.size() - latches + 1) {
                left = literal(random, latchVariables, gate);
                right = k > 0 && own.get(k - 1) < own.get(k) ? 2 * own.get(k - 1) : right;
            }
            lines.add(gate + " " + left + " " + right + "\n");
        }
        if (random.nextBoolean()) {
            Collections.shuffle(lines, random);
        }
        return String.join("", lines);
    }

    private static int literal(Random random, List<Integer> used, int below) {
        for (int k = 0; k < 20 && !used.isEmpty(); k++) {
            int literal = 2 * used.get(random.nextInt(used.size())) + random.nextInt(2);
            if (literal < below && random.nextInt(40) != 0) {
                return literal;
            }
        }
        return random.nextInt(2);
    }

    private static void changedTexts(Random random) {
        String letters = "0123456789  \n\nag";
        int[] kinds = new int[3];
        for (int n = 0; n < CHANGED; n++) {
            StringBuilder text = new StringBuilder(n % 2 == 0 ? circuit(random) : shortCircuit(random));
            for (int changes = random.nextInt(3); changes >= 0; changes--) {
                int at = random.nextInt(text.length());
                char letter = letters.charAt(random.nextInt(letters.length()));
                int how = random.nextInt(4);
                if (how == 0) {
                    text.deleteCharAt(at);
                } else if (how == 1) {
                    text.insert(at, letter);
                } else {
                    text.setCharAt(at, letter);
                }
            }
            if (text.length() <= 400) {
                kinds[kindOf(text.toString())]++;
            }
        }
        System.out.println("changed texts: " + kinds[0] + " circuits, " + kinds[1] + " not small, "
                + kinds[2] + " none");
        Check.same("all kinds of texts", kinds[0] > 100 && kinds[1] > 20 && kinds[2] > 100, true);
    }

    private static String shortCircuit(Random random) {
        int outputs = random.nextInt(3);
        StringBuilder text = new StringBuilder("aag 3 1 1 " + outputs + " 1\n2\n4 6\n");
        for (int k = 0; k < outputs; k++) {
            text.append(random.nextInt(8)).append('\n');
        }
        return text.append("6 3 4\n").toString();
    }

    private static int kindOf(String text) {
        Model model = Model.read(text);
        String due = model == null ? "IllegalArgumentException"
                : model.isSmall() ? Integer.toString(model.latches.size())
                : "UnsupportedOperationException";
        CircuitProver x = new CircuitProver();
        Check.typeAll(x, text);
        Check.same("load of " + text.replace("\n", "\\n"), Check.load(x), due);
        return model == null ? 2 : model.isSmall() ? 0 : 1;
    }

    /** A circuit, read by patterns and asked by recursion. */
    private static final class Model {
        final int[] header = new int[5];
        final List<Integer> inputs = new ArrayList<>();
        final List<int[]> latches = new ArrayList<>();
        final List<Integer> outputs = new ArrayList<>();
        final List<int[]> gates = new ArrayList<>();

        static Model read(String text) {
            if (!text.matches("aag [0-9 \\n]*\\n")) {
                return null;
            }
            String[] lines = text.substring(4, text.length() - 1).split("\n", -1);
            List<int[]> rows = new ArrayList<>();
            for (String line : lines) {
                if (!line.matches("(0|[1-9][0-9]?)( (0|[1-9][0-9]?))*")) {
                    return null;
                }
                String[] words = line.split(" ");
                int[] row = new int[words.length];
                for (int k = 0; k < row.length; k++) {
                    row[k] = Integer.parseInt(words[k]);
                }
                rows.add(row);
            }
            Model model = new Model();
            return model.sort(rows) && model.literalsAreRight() ? model : null;
        }

        private boolean sort(List<int[]> rows) {
            int[] head = rows.get(0);
            if (head.length != 5 || rows.size() != 1 + head[1] + head[2] + head[3] + head[4]) {
                return false;
            }
            System.arraycopy(head, 0, header, 0, 5);
            boolean right = true;
            int at = 1;
            for (int k = 0; k < head[1]; k++, at++) {
                right &= rows.get(at).length == 1;
                inputs.add(rows.get(at)[0]);
            }
            for (int k = 0; k < head[2]; k++, at++) {
                int[] row = rows.get(at);
                right &= row.length == 2 || row.length == 3 && row[2] < 2;
                latches.add(row);
            }
            for (int k = 0; k < head[3]; k++, at++) {
                right &= rows.get(at).length == 1;
                outputs.add(rows.get(at)[0]);
            }
            for (int k = 0; k < head[4]; k++, at++) {
                right &= rows.get(at).length == 3;
                gates.add(rows.get(at));
            }
            return right;
        }

        private boolean literalsAreRight() {
            List<Integer> defined = new ArrayList<>(inputs);
            List<Integer> others = new ArrayList<>(outputs);
            for (int[] latch : latches) {
                defined.add(latch[0]);
                others.add(latch[1]);
            }
            for (int[] gate : gates) {
                defined.add(gate[0]);
                others.add(gate[1]);
                others.add(gate[2]);
                if (gate[1] >= gate[0] || gate[2] >= gate[0]) {
                    return false;
                }
            }
            Set<Integer> different = new HashSet<>(defined);
            if (different.size() != defined.size()) {
                return false;
            }
            for (int literal : defined) {
                if (literal % 2 != 0 || literal < 2 || literal > 2 * header[0] + 1) {
                    return false;
                }
            }
            for (int literal : others) {
                boolean constant = literal < 2;
                if (literal > 2 * header[0] + 1
                        || !constant && !different.contains(literal - literal % 2)) {
                    return false;
                }
            }
            return true;
        }

        boolean isSmall() {
            return header[1] <= 3 && header[2] <= 6 && header[3] == 1 && header[4] <= 20;
        }

        int states() {
            return 1 << latches.size();
        }

        int inputCount() {
            return 1 << inputs.size();
        }

        int start() {
            int state = 0;
            for (int j = 0; j < latches.size(); j++) {
                int[] latch = latches.get(j);
                state += (latch.length == 3 ? latch[2] : 0) << j;
            }
            return state;
        }

        boolean value(int literal, int state, int input) {
            if (literal < 2) {
                return literal == 1;
            }
            if (literal % 2 == 1) {
                return !value(literal - 1, state, input);
            }
            for (int k = 0; k < inputs.size(); k++) {
                if (inputs.get(k) == literal) {
                    return (input >> k) % 2 == 1;
                }
            }
            for (int k = 0; k < latches.size(); k++) {
                if (latches.get(k)[0] == literal) {
                    return (state >> k) % 2 == 1;
                }
            }
            for (int[] gate : gates) {
                if (gate[0] == literal) {
                    return value(gate[1], state, input) && value(gate[2], state, input);
                }
            }
            throw new IllegalStateException("not defined: " + literal);
        }

        int go(int state, int input) {
            int to = 0;
            for (int j = 0; j < latches.size(); j++) {
                to += value(latches.get(j)[1], state, input) ? 1 << j : 0;
            }
            return to;
        }

        boolean output(int state, int input) {
            return value(outputs.get(0), state, input);
        }
    }

    /** THE ANSWER, with sets of numbers. */
    private static final class Finding {
        final Set<Integer> bad = new TreeSet<>();
        final Set<Integer> reached = new TreeSet<>();
        final Set<Integer> doomed = new TreeSet<>();
        Set<Integer> invariant = new TreeSet<>();
        final List<Integer> witness = new ArrayList<>();
        int depth = -1;
        int bound = -1;
        int rounds = -1;
        private final int[][] to;

        Finding(Model model) {
            to = new int[model.states()][model.inputCount()];
            for (int s = 0; s < to.length; s++) {
                for (int i = 0; i < to[s].length; i++) {
                    to[s][i] = model.go(s, i);
                    if (model.output(s, i)) {
                        bad.add(s);
                    }
                }
            }
            reached.addAll(withinSteps(Set.of(model.start()), to.length));
            for (int s = 0; s < to.length; s++) {
                if (meets(withinSteps(Set.of(s), to.length), bad)) {
                    doomed.add(s);
                }
            }
            if (meets(reached, bad)) {
                walk(model);
            } else {
                prove(model);
            }
        }

        private Set<Integer> post(Set<Integer> set) {
            Set<Integer> all = new TreeSet<>();
            for (int s : set) {
                for (int t : to[s]) {
                    all.add(t);
                }
            }
            return all;
        }

        private Set<Integer> withinSteps(Set<Integer> set, int steps) {
            Set<Integer> all = new TreeSet<>(set);
            for (int k = 0; k < steps && all.addAll(post(all)); k++) {
                // the set grows in the condition
            }
            return all;
        }

        private Set<Integer> exactlyAfter(Set<Integer> set, int steps) {
            Set<Integer> there = set;
            for (int k = 0; k < steps; k++) {
                there = post(there);
            }
            return there;
        }

        private static boolean meets(Set<Integer> a, Set<Integer> b) {
            return !Collections.disjoint(a, b);
        }

        private void walk(Model model) {
            depth = 0;
            while (!meets(exactlyAfter(Set.of(model.start()), depth), bad)) {
                depth++;
            }
            int state = model.start();
            for (int left = depth - 1; left >= 0; left--) {
                int input = 0;
                while (!meets(exactlyAfter(Set.of(to[state][input]), left), bad)) {
                    input++;
                }
                witness.add(input);
                state = to[state][input];
            }
            int last = 0;
            while (!model.output(state, last)) {
                last++;
            }
            witness.add(last);
        }

        private Set<Integer> near(int k) {
            Set<Integer> all = new TreeSet<>();
            for (int s = 0; s < to.length; s++) {
                if (meets(withinSteps(Set.of(s), k - 1), bad)) {
                    all.add(s);
                }
            }
            return all;
        }

        private void prove(Model model) {
            bound = 1;
            rounds = 0;
            Set<Integer> r = new TreeSet<>(Set.of(model.start()));
            Set<Integer> near = near(bound);
            while (true) {
                rounds++;
                Set<Integer> piece = post(r);
                if (meets(piece, near)) {
                    bound++;
                    near = near(bound);
                    r = new TreeSet<>(Set.of(model.start()));
                    continue;
                }
                for (int j = 0; j < model.latches.size(); j++) {
                    Set<Integer> wide = new TreeSet<>();
                    for (int s : piece) {
                        wide.add(s);
                        wide.add(s ^ 1 << j);
                    }
                    piece = meets(wide, near) ? piece : wide;
                }
                if (r.containsAll(piece)) {
                    invariant = r;
                    return;
                }
                r.addAll(piece);
            }
        }

        int size(Set<Integer> set, int latches) {
            int all = 0;
            for (int j = 0; j < latches; j++) {
                Set<String> functions = new HashSet<>();
                for (int low = 0; low < 1 << j; low++) {
                    StringBuilder zero = new StringBuilder();
                    StringBuilder one = new StringBuilder();
                    for (int high = 0; high < 1 << latches - j - 1; high++) {
                        int state = low + (high << j + 1);
                        zero.append(set.contains(state) ? '1' : '0');
                        one.append(set.contains(state + (1 << j)) ? '1' : '0');
                    }
                    if (!zero.toString().equals(one.toString())) {
                        functions.add(zero + "/" + one);
                    }
                }
                all += functions.size();
            }
            return all;
        }
    }
}
