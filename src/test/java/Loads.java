/** Loads that are taken and loads that are refused, each with what the calls after it answer. */
final class Loads {
    static final String NO_CIRCUIT = "IllegalArgumentException";
    static final String NOT_SMALL = "UnsupportedOperationException";

    /** What an object has before the load: no circuit, a safe one, an unsafe one. */
    private static final String[] BEFORE = {
        "", "aag 4 0 3 1 1\n2 6 1\n4 2\n6 4 0\n8\n8 4 2\n", "aag 3 1 1 1 1\n2\n4 6 1\n6\n6 2 4\n"
    };
    private static final String AFTER = "aag 6 2 2 1 2\n2\n4\n6 11\n8 6\n12\n10 5 7\n12 8 3\n";

    private Loads() {}

    static void noCircuit(String text) {
        refuses(text, NO_CIRCUIT);
    }

    static void notSmall(String text) {
        refuses(text, NOT_SMALL);
    }

    private static CircuitProver with(String before) {
        return before.isEmpty() ? new CircuitProver() : Check.loaded(before);
    }

    private static String shown(String text) {
        return "\"" + text.replace("\n", "\\n") + "\"";
    }

    /** The text, the circuit and its answers stay, and the object can be used on. */
    private static void refuses(String text, String due) {
        for (String before : BEFORE) {
            CircuitProver x = with(before);
            Check.same("typing " + shown(text), Check.typeAll(x, text), true);
            String picture = Picture.of(x);
            Check.same("load of " + shown(text), Check.load(x), due);
            Check.same("after the load of " + shown(text), Picture.of(x), picture);
            Check.same("length after the load", x.length(), text.length());
            Check.same("load again of " + shown(text), Check.load(x), due);
            x.wipe();
            Check.same("typing what follows", Check.typeAll(x, AFTER), true);
            Check.same("the load that follows " + shown(text), Check.load(x), "2");
            Check.same("the circuit that follows " + shown(text), Picture.of(x),
                    Picture.of(Check.loaded(AFTER)));
        }
    }

    /** The text is empty then, nothing is left of the circuit before, and there is one to ask. */
    static void takes(String text, int latches) {
        String due = null;
        for (String before : BEFORE) {
            CircuitProver x = with(before);
            Check.same("typing " + shown(text), Check.typeAll(x, text), true);
            Check.same("load of " + shown(text), Check.load(x), Integer.toString(latches));
            Check.same("length after the load", x.length(), 0);
            String picture = Picture.of(x);
            Check.same("load of nothing", Check.load(x), NO_CIRCUIT);
            Check.same("after the load of nothing", Picture.of(x), picture);
            Check.same("latches of " + shown(text), Check.answer(() -> x.circuit(2)),
                    Integer.toString(latches));
            due = due == null ? picture : due;
            Check.same("answers of " + shown(text), picture, due);
        }
    }
}
