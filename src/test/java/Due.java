import java.nio.ByteBuffer;
import java.util.List;
import java.util.Set;

/** The whole object once more, slow and plain: what each call is due to answer, as a text. */
final class Due {
    private static final String NO_CIRCUIT = "IllegalStateException";
    private static final String NO_PLACE = "IndexOutOfBoundsException";

    private String text = "";
    private Model model = null;
    private Finding finding = null;

    private static String bit(boolean value) {
        return value ? "1" : "0";
    }

    private String number(int value) {
        return model == null ? NO_CIRCUIT : Integer.toString(value);
    }

    String type(long part) {
        StringBuilder more = new StringBuilder();
        for (byte letter : ByteBuffer.allocate(8).putLong(part).array()) {
            if (letter != 0) {
                more.append((char) (letter & 255));
            }
        }
        boolean good = more.toString().matches("[\\n -~]*")
                && text.length() + more.length() <= 400;
        text = good ? text + more : text;
        return bit(good);
    }

    void wipe() {
        text = "";
    }

    String length() {
        return Integer.toString(text.length());
    }

    String load() {
        Model read = Model.read(text);
        if (read == null) {
            return "IllegalArgumentException";
        }
        if (!read.isSmall()) {
            return "UnsupportedOperationException";
        }
        model = read;
        finding = new Finding(read);
        text = "";
        return number(model.latches.size());
    }

    boolean hasCircuit() {
        return model != null;
    }

    String circuit(int w) {
        if (model == null) {
            return NO_CIRCUIT;
        }
        return number(w >= 0 && w < 5 ? model.header[w] : w == 5 ? model.start() : -1);
    }

    private boolean isPlace(int state, int input) {
        return state >= 0 && state < model.states() && input >= 0 && input < model.inputCount();
    }

    String go(int state, int input) {
        if (model == null) {
            return NO_CIRCUIT;
        }
        return isPlace(state, input) ? number(model.go(state, input)) : NO_PLACE;
    }

    String output(int state, int input) {
        if (model == null) {
            return NO_CIRCUIT;
        }
        return isPlace(state, input) ? bit(model.output(state, input)) : NO_PLACE;
    }

    String safe() {
        return model == null ? NO_CIRCUIT : bit(finding.depth < 0);
    }

    String depth() {
        return model == null ? NO_CIRCUIT : number(finding.depth);
    }

    String witness(int k) {
        if (model == null) {
            return NO_CIRCUIT;
        }
        return number(k >= 0 && k < finding.witness.size() ? finding.witness.get(k) : -1);
    }

    String bound() {
        return model == null ? NO_CIRCUIT : number(finding.bound);
    }

    String rounds() {
        return model == null ? NO_CIRCUIT : number(finding.rounds);
    }

    String holds(int state) {
        return model == null ? NO_CIRCUIT : bit(finding.invariant.contains(state));
    }

    /** One of the four sets, or null if there is none. */
    private Set<Integer> set(int which) {
        if (which < 0 || which > 3 || which == 0 && finding.depth >= 0) {
            return null;
        }
        return List.of(finding.invariant, finding.reached, finding.bad, finding.doomed).get(which);
    }

    String count(int which) {
        if (model == null) {
            return NO_CIRCUIT;
        }
        return number(set(which) == null ? -1 : set(which).size());
    }

    String size(int which) {
        if (model == null) {
            return NO_CIRCUIT;
        }
        return number(set(which) == null ? -1 : finding.size(set(which), model.latches.size()));
    }
}
