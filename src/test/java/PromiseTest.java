import java.util.function.IntSupplier;

/**
 * A test for each promise alone, its sentences in their order. With a number as argument only the
 * test of that promise is run.
 */
final class PromiseTest {
    private static final int NONE = CircuitProver.NONE;
    private static final String NO_CIRCUIT = "IllegalStateException";
    private static final String NO_PLACE = "IndexOutOfBoundsException";

    /** 1 goes to 2, 2 to 4, 4 to 1, and 3 to 6, 6 to 5, 5 to 3; 3 and 7 are bad; START is 1. */
    private static final String SAFE = "aag 4 0 3 1 1\n2 6 1\n4 2\n6 4 0\n8\n8 4 2\n";
    /**
     * Latch 0 is set by input bit 1 and stays set, latch 1 takes latch 0; the output is latch 1
     * where input bit 0 is 0.
     */
    private static final String UNSAFE =
            "aag 6 2 2 1 2\n2\n4\n6 11\n8 6\n12\n10 5 7\n12 8 3\n";
    /**
     * Latch 0 turns, latch 1 takes the negation of latch 2, which stays; 1 and 5 are bad. K = 1
     * ends where {0, 2, 3, 6, 7} is left for 5; with K = 2 latch 2 is kept, although NEAR(3) has
     * one state more, 7.
     */
    private static final String TURNING = "aag 4 0 3 1 1\n2 3\n4 7\n6 6\n8\n8 5 2\n";

    private static final Runnable[] PROMISES = {
        PromiseTest::newObject, PromiseTest::type, PromiseTest::wipe, PromiseTest::length,
        PromiseTest::load, PromiseTest::circuit, PromiseTest::go, PromiseTest::output,
        PromiseTest::safe, PromiseTest::depth, PromiseTest::witness, PromiseTest::bound,
        PromiseTest::rounds, PromiseTest::holds, PromiseTest::count, PromiseTest::size
    };

    public static void main(String[] args) {
        for (int promise = 1; promise <= PROMISES.length; promise++) {
            if (args.length == 0 || args[0].equals(Integer.toString(promise))) {
                PROMISES[promise - 1].run();
            }
        }
        Check.end("PromiseTest");
    }

    private static void due(String call, IntSupplier got, String answer) {
        Check.same(call, Check.answer(got), answer);
    }

    private static void due(String call, IntSupplier got, int answer) {
        due(call, got, Integer.toString(answer));
    }

    /** "An empty text, no circuit." */
    private static void newObject() {
        CircuitProver x = new CircuitProver();
        due("length", x::length, 0);
        due("load", x::load, Loads.NO_CIRCUIT);
        due("circuit", () -> x.circuit(0), NO_CIRCUIT);
        due("go", () -> x.go(0, 0), NO_CIRCUIT);
        due("output", () -> x.output(0, 0) ? 1 : 0, NO_CIRCUIT);
        due("safe", () -> x.safe() ? 1 : 0, NO_CIRCUIT);
        due("depth", x::depth, NO_CIRCUIT);
        due("witness", () -> x.witness(0), NO_CIRCUIT);
        due("bound", x::bound, NO_CIRCUIT);
        due("rounds", x::rounds, NO_CIRCUIT);
        due("holds", () -> x.holds(0) ? 1 : 0, NO_CIRCUIT);
        due("count", () -> x.count(0), NO_CIRCUIT);
        due("size", () -> x.size(0), NO_CIRCUIT);
        CircuitProver other = Check.loaded(SAFE);
        due("a new one beside another", new CircuitProver()::depth, NO_CIRCUIT);
        due("that other one", () -> other.circuit(5), 1);
    }

    private static void type() {
        CircuitProver x = new CircuitProver();
        // "the eight bytes of part, the highest first (bytes that are 0 are passed over)"
        Check.same("aag 0 0 ", x.type(0x6161672030203020L), true);
        Check.same("0 1 0 with holes", x.type(0x3020003120300000L), true);
        Check.same("a 1 between newlines", x.type(0x00000A31000A0000L), true);
        Check.same("nothing", x.type(0L), true);
        due("length", x::length, 16);
        due("load", x::load, 0);
        due("depth", x::depth, 0);
        // "false if another byte is not 10 or 32 .. 126"
        for (int letter = 1; letter < 256; letter++) {
            boolean may = letter == 10 || letter >= 32 && letter <= 126;
            long part = 0x6161000061616161L | (long) letter << 32;
            Check.same("byte " + letter, new CircuitProver().type(part), may);
        }
        Check.same("a byte of 9", x.type(0x6161670900000000L), false);
        due("nothing is added", x::length, 0);
        // "or there would be more than 400"
        for (int k = 0; k < 49; k++) {
            Check.same("type", x.type(0x2020202020202020L), true);
        }
        Check.same("up to 399", x.type(0x2020202020202000L), true);
        Check.same("up to 401", x.type(0x2020L), false);
        due("nothing is added", x::length, 399);
        Check.same("up to 400", x.type(0x20L << 56), true);
        Check.same("no more", x.type(0x20L), false);
        due("400", x::length, 400);
    }

    /** "The text becomes empty." */
    private static void wipe() {
        CircuitProver x = Check.loaded(SAFE);
        Check.typeAll(x, UNSAFE);
        x.wipe();
        due("length", x::length, 0);
        due("load", x::load, Loads.NO_CIRCUIT);
        due("the circuit stays", () -> x.circuit(5), 1);
        x.wipe();
        due("length", x::length, 0);
        Check.typeAll(x, UNSAFE);
        due("what is typed then", x::load, 2);
    }

    /** "How many characters the text has." */
    private static void length() {
        CircuitProver x = new CircuitProver();
        // An object answers 512 calls, so that not every length can be asked for here.
        for (int k = 0; k < 100; k++) {
            due("length", x::length, 4 * k);
            x.type(0x7E200A2000000000L >>> 8 * (k % 5));
        }
        due("a full text", x::length, 400);
        x.wipe();
        due("a wiped text", x::length, 0);
        Check.typeAll(x, SAFE);
        due("a typed text", x::length, SAFE.length());
        x.load();
        due("a text that was loaded", x::length, 0);
    }

    private static void load() {
        CircuitProver x = new CircuitProver();
        Check.typeAll(x, SAFE);
        // "How many latches it has."
        due("load", x::load, 3);
        // "The text .. is empty then; this is the circuit from now on."
        due("length", x::length, 0);
        due("M", () -> x.circuit(0), 4);
        Check.typeAll(x, UNSAFE);
        due("M until the load", () -> x.circuit(0), 4);
        due("load", x::load, 2);
        due("M", () -> x.circuit(0), 6);
        due("depth", x::depth, 2);
        // "IllegalArgumentException if it is no circuit"
        String[] wrong = {
            SAFE.replace("aag", "aig"), SAFE.replace("4 2\n6", "4  2\n6"), SAFE + "\n",
            SAFE.replace(" 4 0\n", " 4 2\n"), SAFE.replace("4 2\n6", "4 02\n6"),
            SAFE.replace("aag 4", "aag 3"), SAFE.replace("4 2\n6", "2 2\n6"),
            SAFE.replace("8 4 2", "8 8 2"), SAFE.replace("8 4 2", "8 4 8"),
            SAFE.replace("aag 4", "aag 5").replace("4 2\n6", "4 10\n6"),
            SAFE.replace("aag 4", "aag 100")
        };
        for (String text : wrong) {
            refused(x, text, Loads.NO_CIRCUIT);
        }
        // "UnsupportedOperationException if it is one, but not SMALL."
        String[] big = {
            "aag 4 4 0 1 0\n2\n4\n6\n8\n0\n",
            "aag 7 0 7 1 0\n2 0\n4 0\n6 0\n8 0\n10 0\n12 0\n14 0\n0\n",
            "aag 0 0 0 0 0\n", "aag 0 0 0 2 0\n0\n0\n", gates(21)
        };
        for (String text : big) {
            refused(x, text, Loads.NOT_SMALL);
            refused(x, text + "0\n", Loads.NO_CIRCUIT);
        }
        Check.typeAll(x, gates(20));
        due("20 gates", x::load, 0);
    }

    private static String gates(int many) {
        Sketch sketch = new Sketch();
        for (int k = 0; k < many; k++) {
            sketch.and(0, 1);
        }
        return sketch.text(0);
    }

    /** UNSAFE is the circuit before, and stays it. */
    private static void refused(CircuitProver x, String text, String answer) {
        x.wipe();
        Check.typeAll(x, text);
        due("load of " + text, x::load, answer);
        due("the text stays", x::length, text.length());
        due("the circuit stays", () -> x.circuit(0), 6);
        due("its depth stays", x::depth, 2);
        x.wipe();
    }

    private static void circuit() {
        // "w = 0 .. 4: M, I, L, O, A; 5: START"
        CircuitProver x = Check.loaded("aag 9 2 3 1 4\n2\n4\n6 2 0\n8 4 1\n10 6 1\n12\n"
                + "12 2 4\n14 3 5\n16 6 8\n18 7 9\n");
        int[] words = {9, 2, 3, 1, 4, 6};
        for (int w = 0; w < words.length; w++) {
            int at = w;
            due("circuit(" + w + ")", () -> x.circuit(at), words[w]);
        }
        // "IllegalStateException if there is no circuit; NONE for any other w."
        due("none", () -> new CircuitProver().circuit(0), NO_CIRCUIT);
        due("none", () -> new CircuitProver().circuit(6), NO_CIRCUIT);
        for (int w : new int[] {-1, 6, 7, Integer.MIN_VALUE, Integer.MAX_VALUE}) {
            due("circuit(" + w + ")", () -> x.circuit(w), NONE);
        }
    }

    private static void go() {
        // "Where one goes from a state with an input."
        CircuitProver x = Check.loaded(UNSAFE);
        int[][] goes = {{0, 0, 1, 1}, {3, 3, 3, 3}, {0, 0, 1, 1}, {3, 3, 3, 3}};
        for (int state = 0; state < 4; state++) {
            for (int input = 0; input < 4; input++) {
                Check.same("go", x.go(state, input), goes[state][input]);
            }
        }
        // "IllegalStateException if there is no circuit"
        due("none", () -> new CircuitProver().go(0, 0), NO_CIRCUIT);
        due("none", () -> new CircuitProver().go(-1, -1), NO_CIRCUIT);
        // "IndexOutOfBoundsException if there is no such state or input."
        due("state -1", () -> x.go(-1, 0), NO_PLACE);
        due("state 4", () -> x.go(4, 0), NO_PLACE);
        due("input -1", () -> x.go(0, -1), NO_PLACE);
        due("input 4", () -> x.go(0, 4), NO_PLACE);
    }

    private static void output() {
        // "Whether the output is 1 in a state with an input."
        CircuitProver x = Check.loaded(UNSAFE);
        for (int state = 0; state < 4; state++) {
            for (int input = 0; input < 4; input++) {
                Check.same("output", x.output(state, input), state >= 2 && input % 2 == 0);
            }
        }
        // "IllegalStateException if there is no circuit"
        due("none", () -> new CircuitProver().output(0, 0) ? 1 : 0, NO_CIRCUIT);
        due("none", () -> new CircuitProver().output(-1, -1) ? 1 : 0, NO_CIRCUIT);
        // "IndexOutOfBoundsException if there is no such state or input."
        due("state -1", () -> x.output(-1, 0) ? 1 : 0, NO_PLACE);
        due("state 4", () -> x.output(4, 0) ? 1 : 0, NO_PLACE);
        due("input -1", () -> x.output(0, -1) ? 1 : 0, NO_PLACE);
        due("input 4", () -> x.output(0, 4) ? 1 : 0, NO_PLACE);
    }

    private static void safe() {
        // "Whether the circuit is SAFE."
        Check.same("safe", Check.loaded(SAFE).safe(), true);
        Check.same("bad in two steps", Check.loaded(UNSAFE).safe(), false);
        Check.same("bad at START", Check.loaded("aag 1 0 1 1 0\n2 0 1\n2\n").safe(), false);
        Check.same("bad, but not reached", Check.loaded("aag 1 0 1 1 0\n2 2\n2\n").safe(), true);
        Check.same("bad in one step", Check.loaded("aag 1 0 1 1 0\n2 3\n2\n").safe(), false);
        // "IllegalStateException if there is no circuit."
        due("none", () -> new CircuitProver().safe() ? 1 : 0, NO_CIRCUIT);
    }

    private static void depth() {
        // "DEPTH"
        due("two steps", Check.loaded(UNSAFE)::depth, 2);
        due("no step", Check.loaded("aag 1 0 1 1 0\n2 0 1\n2\n")::depth, 0);
        due("one step", Check.loaded("aag 1 0 1 1 0\n2 3\n2\n")::depth, 1);
        due("three steps", Check.loaded(Sketch.counter(60))::depth, 3);
        due("63 steps", Check.loaded(Sketch.counter(0))::depth, 63);
        // "NONE if the circuit is SAFE."
        due("safe", Check.loaded(SAFE)::depth, NONE);
        // "IllegalStateException if there is no circuit."
        due("none", new CircuitProver()::depth, NO_CIRCUIT);
    }

    private static void witness() {
        // "Input k (from 0) of the WITNESS; NONE if there is none."
        CircuitProver x = Check.loaded(UNSAFE);
        int[] inputs = {2, 0, 0, NONE, NONE};
        for (int k = 0; k < inputs.length; k++) {
            int at = k;
            due("witness(" + k + ")", () -> x.witness(at), inputs[k]);
        }
        CircuitProver five = Check.loaded(Sketch.counterWithInputFive());
        due("the first of 64", () -> five.witness(0), 5);
        due("the last of 64", () -> five.witness(63), 5);
        due("one more", () -> five.witness(64), NONE);
        CircuitProver safe = Check.loaded(SAFE);
        for (int k : new int[] {-1, Integer.MIN_VALUE, Integer.MAX_VALUE}) {
            due("witness(" + k + ")", () -> x.witness(k), NONE);
            due("witness(" + k + ") of a safe one", () -> safe.witness(k), NONE);
        }
        due("witness(0) of a safe one", () -> safe.witness(0), NONE);
        // "IllegalStateException if there is no circuit."
        due("none", () -> new CircuitProver().witness(0), NO_CIRCUIT);
        due("none", () -> new CircuitProver().witness(-1), NO_CIRCUIT);
    }

    private static void bound() {
        // "The last K"
        due("K", Check.loaded(SAFE)::bound, 3);
        due("K is the least that is enough", Check.loaded(TURNING)::bound, 2);
        due("the first K", Check.loaded("aag 1 0 1 1 0\n2 2\n2\n")::bound, 1);
        due("the highest K", Check.loaded(Sketch.counterThatStaysAtZero(6, 0))::bound, 63);
        // "NONE if the circuit is UNSAFE."
        due("unsafe", Check.loaded(UNSAFE)::bound, NONE);
        due("unsafe", Check.loaded("aag 1 0 1 1 0\n2 0 1\n2\n")::bound, NONE);
        // "IllegalStateException if there is no circuit."
        due("none", new CircuitProver()::bound, NO_CIRCUIT);
    }

    private static void rounds() {
        // "How many rounds the PROOF took, the last one with them"
        due("rounds", Check.loaded(SAFE)::rounds, 8);
        due("rounds", Check.loaded(TURNING)::rounds, 4);
        due("one round", Check.loaded("aag 1 0 1 1 0\n2 2\n2\n")::rounds, 1);
        due("two rounds", Check.loaded("aag 1 0 1 1 0\n2 2\n0\n")::rounds, 2);
        // "NONE if the circuit is UNSAFE."
        due("unsafe", Check.loaded(UNSAFE)::rounds, NONE);
        // "IllegalStateException if there is no circuit."
        due("none", new CircuitProver()::rounds, NO_CIRCUIT);
    }

    private static void holds() {
        // "Whether a state is in the INVARIANT"
        CircuitProver x = Check.loaded(SAFE);
        boolean[] in = {true, true, true, false, true, false, false, false};
        for (int state = 0; state < in.length; state++) {
            Check.same("holds(" + state + ")", x.holds(state), in[state]);
        }
        // Neither all states that are reached nor all from which no bad one is.
        CircuitProver wide = Check.loaded("aag 3 0 2 1 1\n2 2 1\n4 4\n6\n6 5 3\n");
        for (int state = 0; state < 4; state++) {
            Check.same("holds(" + state + ")", wide.holds(state), state % 2 == 1);
        }
        // "false also if there is no such state"
        CircuitProver all = Check.loaded(Sketch.staying(6, 0, 0));
        Check.same("the last one", all.holds(63), true);
        for (int state : new int[] {-1, 64, 65, 128, Integer.MIN_VALUE, Integer.MAX_VALUE}) {
            Check.same("holds(" + state + ")", all.holds(state), false);
            Check.same("holds(" + state + ")", x.holds(state), false);
        }
        Check.same("a state of larger circuits", x.holds(8), false);
        // "or the circuit is UNSAFE."
        CircuitProver unsafe = Check.loaded(SAFE);
        Check.typeAll(unsafe, UNSAFE);
        unsafe.load();
        for (int state = 0; state < 4; state++) {
            Check.same("unsafe", unsafe.holds(state), false);
        }
        // "IllegalStateException if there is no circuit."
        due("none", () -> new CircuitProver().holds(0) ? 1 : 0, NO_CIRCUIT);
        due("none", () -> new CircuitProver().holds(-1) ? 1 : 0, NO_CIRCUIT);
    }

    private static void count() {
        // "0: the INVARIANT (NONE if the circuit is UNSAFE), 1: the states that can be reached
        // from START, 2: those that are BAD, 3: those from which a BAD one can be reached."
        CircuitProver safe = Check.loaded(SAFE);
        CircuitProver unsafe = Check.loaded(UNSAFE);
        int[] ofSafe = {4, 3, 2, 4};
        int[] ofUnsafe = {NONE, 3, 2, 4};
        for (int which = 0; which < 4; which++) {
            Check.same("count(" + which + ")", safe.count(which), ofSafe[which]);
            Check.same("count(" + which + ")", unsafe.count(which), ofUnsafe[which]);
        }
        // "IllegalStateException if there is no circuit; NONE for any other which."
        due("none", () -> new CircuitProver().count(0), NO_CIRCUIT);
        due("none", () -> new CircuitProver().count(4), NO_CIRCUIT);
        for (int which : new int[] {-1, 4, 5, Integer.MIN_VALUE, Integer.MAX_VALUE}) {
            Check.same("count(" + which + ")", safe.count(which), NONE);
            Check.same("count(" + which + ")", unsafe.count(which), NONE);
        }
    }

    private static void size() {
        // "The SIZE of the same sets; NONE as there."
        CircuitProver safe = Check.loaded(SAFE);
        CircuitProver unsafe = Check.loaded(UNSAFE);
        int[] ofSafe = {4, 5, 2, 4};
        int[] ofUnsafe = {NONE, 2, 1, 0};
        for (int which = 0; which < 4; which++) {
            Check.same("size(" + which + ")", safe.size(which), ofSafe[which]);
            Check.same("size(" + which + ")", unsafe.size(which), ofUnsafe[which]);
        }
        for (int which : new int[] {-1, 4, 5, Integer.MIN_VALUE, Integer.MAX_VALUE}) {
            Check.same("size(" + which + ")", safe.size(which), NONE);
            Check.same("size(" + which + ")", unsafe.size(which), NONE);
        }
        // "IllegalStateException if there is no circuit."
        due("none", () -> new CircuitProver().size(0), NO_CIRCUIT);
        due("none", () -> new CircuitProver().size(4), NO_CIRCUIT);
    }
}
