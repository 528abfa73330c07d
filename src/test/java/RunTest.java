import java.util.Map;
import java.util.Random;
import java.util.TreeMap;

/**
 * "over every run of calls of an object": runs of 512 calls of all kinds in any order, right and
 * wrong ones, each answer against that of the slow model.
 */
final class RunTest {
    private static final int RUNS = 600;
    private static final int CALLS = 512;
    /** Calls with their answers that show that the runs do not stay in one corner. */
    private static final String[] KINDS = {
        "type 0", "type 1", "load IllegalArgumentException", "load UnsupportedOperationException",
        "load 0", "load 1", "load 2", "load 3", "load 4", "load 5", "load 6",
        "circuit IllegalStateException", "go IllegalStateException", "go IndexOutOfBoundsException",
        "output IndexOutOfBoundsException", "output 0", "output 1", "safe 0", "safe 1", "depth 3",
        "bound 3", "rounds 5", "holds 0", "holds 1", "witness 0", "witness 2", "size 10"
    };
    private static final int[] FAR = {
        Integer.MIN_VALUE, -65, -64, -2, 64, 65, 128, 256, 1 << 30, Integer.MAX_VALUE
    };

    private final Random random;
    private final Map<String, Integer> seen;
    private final CircuitProver x = new CircuitProver();
    private final Due due = new Due();
    /** What is left of the text that is being typed. */
    private String rest = "";
    /** Whether what a refused load has left is wiped before the next text; mostly it is. */
    private boolean wipesFirst = false;

    private RunTest(Random random, Map<String, Integer> seen) {
        this.random = random;
        this.seen = seen;
    }

    public static void main(String[] args) {
        Random random = new Random(512L);
        Map<String, Integer> seen = new TreeMap<>();
        for (int run = 0; run < RUNS; run++) {
            RunTest one = new RunTest(random, seen);
            for (int call = 0; call < CALLS; call++) {
                one.call();
            }
        }
        for (String kind : KINDS) {
            Check.same("\"" + kind + "\" came often", seen.getOrDefault(kind, 0) > 20, true);
        }
        Check.end("RunTest");
    }

    private void same(String name, String arguments, String got, String answer) {
        Check.same(name + arguments, got, answer);
        seen.merge(name + " " + answer, 1, Integer::sum);
    }

    private void call() {
        int kind = random.nextInt(100);
        if (kind < 40) {
            typeOn();
        } else if (kind < 41) {
            type(random.nextBoolean() ? random.nextLong() : oddPart());
        } else if (kind < 42) {
            wipe();
            rest = "";
        } else if (kind < 46) {
            same("length", "()", Check.answer(x::length), due.length());
        } else if (kind < 47) {
            load();
        } else if (kind < 68) {
            askForPlaces();
        } else {
            askForTheAnswer();
        }
    }

    private void wipe() {
        x.wipe();
        due.wipe();
        wipesFirst = false;
    }

    /** One call on the way: the next characters of a text, or its load when all is typed. */
    private void typeOn() {
        if (rest.isEmpty()) {
            load();
            rest = nextText();
            wipesFirst = random.nextInt(4) != 0;
            return;
        }
        if (wipesFirst) {
            wipe();
            return;
        }
        int many = Math.min(rest.length(), random.nextInt(12) == 0 ? 1 : 6 + random.nextInt(3));
        type(withHoles(rest.substring(0, many)));
        rest = rest.substring(many);
    }

    private String nextText() {
        int kind = random.nextInt(8);
        String text = kind < 5 ? MadeUp.circuit(random) : MadeUp.shortCircuit(random);
        return kind == 4 || kind == 7 ? MadeUp.changed(random, text) : text;
    }

    private void type(long part) {
        same("type", "(" + part + "L)", Check.answer(() -> x.type(part) ? 1 : 0), due.type(part));
    }

    /** The characters in order, with the bytes that are left over as 0 anywhere among them. */
    private long withHoles(String letters) {
        long part = 0;
        int holes = 8 - letters.length();
        for (int k = 0; k < letters.length(); k++) {
            int before = random.nextInt(holes + 1);
            holes -= before;
            part = part << 8 * before;
            part = part << 8 | letters.charAt(k);
        }
        return part << 8 * holes;
    }

    /** Bytes on both sides of those that may be typed, one of them among blanks or alone. */
    private long oddPart() {
        int[] letters = {0, 9, 10, 11, 31, 32, 126, 127, 128, 255};
        long others = random.nextBoolean() ? 0L : 0x2020202020202020L;
        int shift = 8 * random.nextInt(8);
        long letter = letters[random.nextInt(letters.length)];
        return others & ~(255L << shift) | letter << shift;
    }

    private void load() {
        same("load", "()", Check.load(x), due.load());
    }

    private int from(int low, int high) {
        return random.nextInt(15) == 0 ? FAR[random.nextInt(FAR.length)]
                : low + random.nextInt(high - low + 1);
    }

    private int state() {
        int latches = due.hasCircuit() ? Integer.parseInt(due.circuit(2)) : 1;
        return from(-1, 1 << latches);
    }

    private int input() {
        int inputs = due.hasCircuit() ? Integer.parseInt(due.circuit(1)) : 1;
        return from(random.nextInt(3) - 1, 1 << inputs);
    }

    private void askForPlaces() {
        int state = state();
        int input = input();
        String where = "(" + state + ", " + input + ")";
        switch (random.nextInt(3)) {
            case 0:
                same("go", where, Check.answer(() -> x.go(state, input)), due.go(state, input));
                break;
            case 1:
                same("output", where, Check.answer(() -> x.output(state, input) ? 1 : 0),
                        due.output(state, input));
                break;
            default:
                same("holds", "(" + state + ")", Check.answer(() -> x.holds(state) ? 1 : 0),
                        due.holds(state));
        }
    }

    private void askForTheAnswer() {
        int n = from(-1, 6);
        String which = "(" + n + ")";
        switch (random.nextInt(8)) {
            case 0:
                same("circuit", which, Check.answer(() -> x.circuit(n)), due.circuit(n));
                break;
            case 1:
                same("safe", "()", Check.answer(() -> x.safe() ? 1 : 0), due.safe());
                break;
            case 2:
                same("depth", "()", Check.answer(x::depth), due.depth());
                break;
            case 3:
                same("bound", "()", Check.answer(x::bound), due.bound());
                break;
            case 4:
                same("rounds", "()", Check.answer(x::rounds), due.rounds());
                break;
            case 5:
                same("witness", which, Check.answer(() -> x.witness(n)), due.witness(n));
                break;
            case 6:
                same("count", which, Check.answer(() -> x.count(n)), due.count(n));
                break;
            default:
                same("size", which, Check.answer(() -> x.size(n)), due.size(n));
        }
    }
}
