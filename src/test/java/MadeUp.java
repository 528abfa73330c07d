import java.util.ArrayList;
import java.util.Collections;
import java.util.List;
import java.util.Random;

/** Texts of circuits that are made up; the same source of numbers gives the same texts. */
final class MadeUp {
    private static final String LETTERS = "0123456789  \n\nag";

    private MadeUp() {}

    /**
     * Half of the texts shift their latches along, so that there are long ways; half join their
     * last gates to the output, so that few states are bad and more circuits are safe.
     */
    static String circuit(Random random) {
        int inputs = random.nextInt(4);
        int latches = random.nextInt(8) == 0 ? random.nextInt(7) : 3 + random.nextInt(4);
        int gates = random.nextInt(21);
        int most = Math.min(49, inputs + latches + gates + random.nextInt(4));
        List<Integer> used = variables(random, inputs + latches + gates, most);
        List<Integer> own = new ArrayList<>(used.subList(inputs + latches, used.size()));
        boolean shifts = random.nextBoolean();
        boolean joins = random.nextBoolean() && gates > 0;
        StringBuilder text = new StringBuilder("aag " + most + " " + inputs + " " + latches);
        text.append(" 1 ").append(gates).append('\n');
        for (int k = 0; k < inputs; k++) {
            text.append(2 * used.get(k)).append('\n');
        }
        for (int k = 0; k < latches; k++) {
            int next = shifts && k > 0 && random.nextInt(9) != 0
                    ? 2 * used.get(inputs + k - 1) : literal(random, used, 100);
            text.append(2 * used.get(inputs + k)).append(' ').append(next);
            int first = random.nextInt(6);
            text.append(first == 0 ? " 1" : first < 3 ? " 0" : "").append('\n');
        }
        int output = joins ? 2 * own.get(gates - 1) : literal(random, used, 100);
        text.append(output).append('\n').append(gateLines(random, used, own, latches, joins));
        return text.toString();
    }

    private static List<Integer> variables(Random random, int needed, int most) {
        List<Integer> variables = new ArrayList<>();
        for (int v = 1; v <= most; v++) {
            variables.add(v);
        }
        if (random.nextInt(3) == 0) {
            Collections.shuffle(variables, random);
        }
        return variables.subList(0, needed);
    }

    private static String gateLines(Random random, List<Integer> used, List<Integer> own,
            int latches, boolean joins) {
        List<Integer> latchVariables = used.subList(used.size() - own.size() - latches,
                used.size() - own.size());
        List<String> lines = new ArrayList<>();
        for (int k = 0; k < own.size(); k++) {
            int gate = 2 * own.get(k);
            int left = literal(random, used, gate);
            int right = literal(random, used, gate);
            if (joins && k >= own.size() - latches + 1) {
                left = literal(random, latchVariables, gate);
                right = k > 0 && own.get(k - 1) < own.get(k) ? 2 * own.get(k - 1) : right;
            }
            lines.add(gate + " " + left + " " + right + "\n");
        }
        if (random.nextBoolean()) {
            Collections.shuffle(lines, random);
        }
        return String.join("", lines);
    }

    private static int literal(Random random, List<Integer> used, int below) {
        for (int k = 0; k < 20 && !used.isEmpty(); k++) {
            int literal = 2 * used.get(random.nextInt(used.size())) + random.nextInt(2);
            if (literal < below && random.nextInt(40) != 0) {
                return literal;
            }
        }
        return random.nextInt(2);
    }

    /** A few lines with up to two outputs, so that some are not small. */
    static String shortCircuit(Random random) {
        int outputs = random.nextInt(3);
        StringBuilder text = new StringBuilder("aag 3 1 1 " + outputs + " 1\n2\n4 6\n");
        for (int k = 0; k < outputs; k++) {
            text.append(random.nextInt(8)).append('\n');
        }
        return text.append("6 3 4\n").toString();
    }

    /** One to three characters are taken out, put in or changed. */
    static String changed(Random random, String text) {
        StringBuilder changed = new StringBuilder(text);
        for (int changes = random.nextInt(3); changes >= 0; changes--) {
            int at = random.nextInt(changed.length());
            char letter = LETTERS.charAt(random.nextInt(LETTERS.length()));
            int how = random.nextInt(4);
            if (how == 0) {
                changed.deleteCharAt(at);
            } else if (how == 1) {
                changed.insert(at, letter);
            } else {
                changed.setCharAt(at, letter);
            }
        }
        return changed.toString();
    }
}
