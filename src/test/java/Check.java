import java.util.function.IntSupplier;

/** What the tests share: typing a text, telling what a call throws, and counting wrong answers. */
final class Check {
    private static final int MOST_SHOWN = 50;
    private static int wrong = 0;
    private static int asked = 0;

    private Check() {}

    static void same(String what, long got, long due) {
        same(what, Long.toString(got), Long.toString(due));
    }

    static void same(String what, boolean got, boolean due) {
        same(what, got ? 1 : 0, due ? 1 : 0);
    }

    static void same(String what, String got, String due) {
        asked++;
        if (!got.equals(due)) {
            wrong++;
            if (wrong <= MOST_SHOWN) {
                System.out.println(what + " answered " + got + ", due is " + due);
            }
        }
    }

    /** The simple name of what the call throws, or "nothing". */
    static String thrown(IntSupplier call) {
        try {
            call.getAsInt();
            return "nothing";
        } catch (RuntimeException e) {
            return e.getClass().getSimpleName();
        }
    }

    /** What a call answers, as a text: a number or the name of what it throws. */
    static String answer(IntSupplier call) {
        try {
            return Integer.toString(call.getAsInt());
        } catch (RuntimeException e) {
            return e.getClass().getSimpleName();
        }
    }

    static String load(CircuitProver prover) {
        return answer(prover::load);
    }

    static boolean typeAll(CircuitProver prover, String text) {
        boolean all = true;
        for (int at = 0; at < text.length(); at += 8) {
            all &= prover.type(part(text.substring(at, Math.min(at + 8, text.length()))));
        }
        return all;
    }

    /** Up to eight characters as one part, the first one in the highest byte that is used. */
    static long part(String letters) {
        long part = 0;
        for (int k = 0; k < letters.length(); k++) {
            part = part << 8 | letters.charAt(k);
        }
        return part;
    }

    static CircuitProver loaded(String text) {
        CircuitProver prover = new CircuitProver();
        same("typing " + text, typeAll(prover, text), true);
        prover.load();
        return prover;
    }

    static void end(String name) {
        System.out.println(name + ": " + asked + " answers, " + wrong + " wrong");
        if (wrong != 0 || asked == 0) {
            System.exit(1);
        }
    }
}
