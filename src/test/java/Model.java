import java.util.ArrayList;
import java.util.HashSet;
import java.util.List;
import java.util.Set;

/** A circuit, read by patterns and asked by recursion. */
final class Model {
    final int[] header = new int[5];
    final List<Integer> inputs = new ArrayList<>();
    final List<int[]> latches = new ArrayList<>();
    final List<Integer> outputs = new ArrayList<>();
    final List<int[]> gates = new ArrayList<>();

    static Model read(String text) {
        if (!text.matches("aag [0-9 \\n]*\\n")) {
            return null;
        }
        String[] lines = text.substring(4, text.length() - 1).split("\n", -1);
        List<int[]> rows = new ArrayList<>();
        for (String line : lines) {
            if (!line.matches("(0|[1-9][0-9]?)( (0|[1-9][0-9]?))*")) {
                return null;
            }
            String[] words = line.split(" ");
            int[] row = new int[words.length];
            for (int k = 0; k < row.length; k++) {
                row[k] = Integer.parseInt(words[k]);
            }
            rows.add(row);
        }
        Model model = new Model();
        return model.sort(rows) && model.literalsAreRight() ? model : null;
    }

    private boolean sort(List<int[]> rows) {
        int[] head = rows.get(0);
        if (head.length != 5 || rows.size() != 1 + head[1] + head[2] + head[3] + head[4]) {
            return false;
        }
        System.arraycopy(head, 0, header, 0, 5);
        boolean right = true;
        int at = 1;
        for (int k = 0; k < head[1]; k++, at++) {
            right &= rows.get(at).length == 1;
            inputs.add(rows.get(at)[0]);
        }
        for (int k = 0; k < head[2]; k++, at++) {
            int[] row = rows.get(at);
            right &= row.length == 2 || row.length == 3 && row[2] < 2;
            latches.add(row);
        }
        for (int k = 0; k < head[3]; k++, at++) {
            right &= rows.get(at).length == 1;
            outputs.add(rows.get(at)[0]);
        }
        for (int k = 0; k < head[4]; k++, at++) {
            right &= rows.get(at).length == 3;
            gates.add(rows.get(at));
        }
        return right;
    }

    private boolean literalsAreRight() {
        List<Integer> defined = new ArrayList<>(inputs);
        List<Integer> others = new ArrayList<>(outputs);
        for (int[] latch : latches) {
            defined.add(latch[0]);
            others.add(latch[1]);
        }
        for (int[] gate : gates) {
            defined.add(gate[0]);
            others.add(gate[1]);
            others.add(gate[2]);
            if (gate[1] >= gate[0] || gate[2] >= gate[0]) {
                return false;
            }
        }
        Set<Integer> different = new HashSet<>(defined);
        if (different.size() != defined.size()) {
            return false;
        }
        for (int literal : defined) {
            if (literal % 2 != 0 || literal < 2 || literal > 2 * header[0] + 1) {
                return false;
            }
        }
        for (int literal : others) {
            boolean constant = literal < 2;
            if (literal > 2 * header[0] + 1
                    || !constant && !different.contains(literal - literal % 2)) {
                return false;
            }
        }
        return true;
    }

    boolean isSmall() {
        return header[1] <= 3 && header[2] <= 6 && header[3] == 1 && header[4] <= 20;
    }

    int states() {
        return 1 << latches.size();
    }

    int inputCount() {
        return 1 << inputs.size();
    }

    int start() {
        int state = 0;
        for (int j = 0; j < latches.size(); j++) {
            int[] latch = latches.get(j);
            state += (latch.length == 3 ? latch[2] : 0) << j;
        }
        return state;
    }

    boolean value(int literal, int state, int input) {
        if (literal < 2) {
            return literal == 1;
        }
        if (literal % 2 == 1) {
            return !value(literal - 1, state, input);
        }
        for (int k = 0; k < inputs.size(); k++) {
            if (inputs.get(k) == literal) {
                return (input >> k) % 2 == 1;
            }
        }
        for (int k = 0; k < latches.size(); k++) {
            if (latches.get(k)[0] == literal) {
                return (state >> k) % 2 == 1;
            }
        }
        for (int[] gate : gates) {
            if (gate[0] == literal) {
                return value(gate[1], state, input) && value(gate[2], state, input);
            }
        }
        throw new IllegalStateException("not defined: " + literal);
    }

    int go(int state, int input) {
        int to = 0;
        for (int j = 0; j < latches.size(); j++) {
            to += value(latches.get(j)[1], state, input) ? 1 << j : 0;
        }
        return to;
    }

    boolean output(int state, int input) {
        return value(outputs.get(0), state, input);
    }
}
