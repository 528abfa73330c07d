import java.util.ArrayList;
import java.util.Collections;
import java.util.HashSet;
import java.util.List;
import java.util.Set;
import java.util.TreeSet;

/** THE ANSWER, with sets of numbers. */
final class Finding {
    final Set<Integer> bad = new TreeSet<>();
    final Set<Integer> reached = new TreeSet<>();
    final Set<Integer> doomed = new TreeSet<>();
    Set<Integer> invariant = new TreeSet<>();
    final List<Integer> witness = new ArrayList<>();
    int depth = -1;
    int bound = -1;
    int rounds = -1;
    private final int[][] to;

    Finding(Model model) {
        to = new int[model.states()][model.inputCount()];
        for (int s = 0; s < to.length; s++) {
            for (int i = 0; i < to[s].length; i++) {
                to[s][i] = model.go(s, i);
                if (model.output(s, i)) {
                    bad.add(s);
                }
            }
        }
        reached.addAll(withinSteps(Set.of(model.start()), to.length));
        for (int s = 0; s < to.length; s++) {
            if (meets(withinSteps(Set.of(s), to.length), bad)) {
                doomed.add(s);
            }
        }
        if (meets(reached, bad)) {
            walk(model);
        } else {
            prove(model);
        }
    }

    private Set<Integer> post(Set<Integer> set) {
        Set<Integer> all = new TreeSet<>();
        for (int s : set) {
            for (int t : to[s]) {
                all.add(t);
            }
        }
        return all;
    }

    private Set<Integer> withinSteps(Set<Integer> set, int steps) {
        Set<Integer> all = new TreeSet<>(set);
        for (int k = 0; k < steps && all.addAll(post(all)); k++) {
            // the set grows in the condition
        }
        return all;
    }

    private Set<Integer> exactlyAfter(Set<Integer> set, int steps) {
        Set<Integer> there = set;
        for (int k = 0; k < steps; k++) {
            there = post(there);
        }
        return there;
    }

    private static boolean meets(Set<Integer> a, Set<Integer> b) {
        return !Collections.disjoint(a, b);
    }

    private void walk(Model model) {
        depth = 0;
        while (!meets(exactlyAfter(Set.of(model.start()), depth), bad)) {
            depth++;
        }
        int state = model.start();
        for (int left = depth - 1; left >= 0; left--) {
            int input = 0;
            while (!meets(exactlyAfter(Set.of(to[state][input]), left), bad)) {
                input++;
            }
            witness.add(input);
            state = to[state][input];
        }
        int last = 0;
        while (!model.output(state, last)) {
            last++;
        }
        witness.add(last);
    }

    private Set<Integer> near(int k) {
        Set<Integer> all = new TreeSet<>();
        for (int s = 0; s < to.length; s++) {
            if (meets(withinSteps(Set.of(s), k - 1), bad)) {
                all.add(s);
            }
        }
        return all;
    }

    private void prove(Model model) {
        bound = 1;
        rounds = 0;
        Set<Integer> r = new TreeSet<>(Set.of(model.start()));
        Set<Integer> near = near(bound);
        while (true) {
            rounds++;
            Set<Integer> piece = post(r);
            if (meets(piece, near)) {
                bound++;
                near = near(bound);
                r = new TreeSet<>(Set.of(model.start()));
                continue;
            }
            for (int j = 0; j < model.latches.size(); j++) {
                Set<Integer> wide = new TreeSet<>();
                for (int s : piece) {
                    wide.add(s);
                    wide.add(s ^ 1 << j);
                }
                piece = meets(wide, near) ? piece : wide;
            }
            if (r.containsAll(piece)) {
                invariant = r;
                return;
            }
            r.addAll(piece);
        }
    }

    int size(Set<Integer> set, int latches) {
        int all = 0;
        for (int j = 0; j < latches; j++) {
            Set<String> functions = new HashSet<>();
            for (int low = 0; low < 1 << j; low++) {
                StringBuilder zero = new StringBuilder();
                StringBuilder one = new StringBuilder();
                for (int high = 0; high < 1 << latches - j - 1; high++) {
                    int state = low + (high << j + 1);
                    zero.append(set.contains(state) ? '1' : '0');
                    one.append(set.contains(state + (1 << j)) ? '1' : '0');
                }
                if (!zero.toString().equals(one.toString())) {
                    functions.add(zero + "/" + one);
                }
            }
            all += functions.size();
        }
        return all;
    }
}
