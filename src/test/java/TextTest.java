/** Promises 1 to 4: a new object, type, wipe, length. */
final class TextTest {
    private static final String TRUE_OUTPUT = "aag 0 0 0 1 0\n1\n";

    public static void main(String[] args) {
        newObject();
        bytesThatMayBeTyped();
        orderAndZeroBytes();
        wholePartsOrNothing();
        fourHundredCharacters();
        wiping();
        textAndCircuitAreApart();
        Check.end("TextTest");
    }

    private static void newObject() {
        CircuitProver x = new CircuitProver();
        Check.same("new length", x.length(), 0);
        String due = "IllegalStateException";
        Check.same("new circuit", Check.thrown(() -> x.circuit(0)), due);
        Check.same("new circuit(9)", Check.thrown(() -> x.circuit(9)), due);
        Check.same("new go", Check.thrown(() -> x.go(0, 0)), due);
        Check.same("new go(-1, -1)", Check.thrown(() -> x.go(-1, -1)), due);
        Check.same("new output", Check.thrown(() -> x.output(0, 0) ? 1 : 0), due);
        Check.same("new output(-1, 9)", Check.thrown(() -> x.output(-1, 9) ? 1 : 0), due);
        Check.same("new safe", Check.thrown(() -> x.safe() ? 1 : 0), due);
        Check.same("new depth", Check.thrown(x::depth), due);
        Check.same("new witness", Check.thrown(() -> x.witness(0)), due);
        Check.same("new witness(-1)", Check.thrown(() -> x.witness(-1)), due);
        Check.same("new bound", Check.thrown(x::bound), due);
        Check.same("new rounds", Check.thrown(x::rounds), due);
        Check.same("new holds", Check.thrown(() -> x.holds(0) ? 1 : 0), due);
        Check.same("new holds(99)", Check.thrown(() -> x.holds(99) ? 1 : 0), due);
        Check.same("new count", Check.thrown(() -> x.count(1)), due);
        Check.same("new count(7)", Check.thrown(() -> x.count(7)), due);
        Check.same("new size", Check.thrown(() -> x.size(1)), due);
        Check.same("new size(7)", Check.thrown(() -> x.size(7)), due);
        Check.same("new load", Check.load(x), "IllegalArgumentException");
    }

    private static void bytesThatMayBeTyped() {
        for (int letter = 0; letter < 256; letter++) {
            boolean may = letter == 0 || letter == 10 || letter >= 32 && letter <= 126;
            for (int shift = 0; shift < 64; shift += 8) {
                CircuitProver x = new CircuitProver();
                String what = "byte " + letter + " at " + shift;
                Check.same(what, x.type((long) letter << shift), may);
                Check.same(what + ": length", x.length(), may && letter != 0 ? 1 : 0);
            }
        }
    }

    private static void orderAndZeroBytes() {
        CircuitProver x = new CircuitProver();
        Check.same("type(0)", x.type(0L), true);
        Check.same("length after type(0)", x.length(), 0);
        Check.same("holes", x.type(0x6100610067000020L), true);
        Check.same("length with holes", x.length(), 4);
        Check.same("the rest", Check.typeAll(x, TRUE_OUTPUT.substring(4)), true);
        Check.same("all", x.length(), TRUE_OUTPUT.length());
        Check.same("load", Check.load(x), "0");
        Check.same("length after load", x.length(), 0);
    }

    private static void wholePartsOrNothing() {
        CircuitProver x = new CircuitProver();
        Check.same("good then bad", x.type(0x6161672030203009L), false);
        Check.same("nothing was added", x.length(), 0);
        Check.same("bad then good", x.type(0xFF61672030203030L), false);
        Check.same("nothing was added", x.length(), 0);
        Check.same("type", Check.typeAll(x, TRUE_OUTPUT), true);
        Check.same("127", x.type(127L), false);
        Check.same("-1", x.type(-1L), false);
        Check.same("load is not disturbed", Check.load(x), "0");
    }

    private static void fourHundredCharacters() {
        CircuitProver x = new CircuitProver();
        for (int k = 0; k < 49; k++) {
            x.type(Check.part("abcdefgh"));
        }
        Check.same("392", x.length(), 392);
        Check.same("three more", x.type(Check.part("abc")), true);
        Check.same("six are too many", x.type(Check.part("abcdef")), false);
        Check.same("395", x.length(), 395);
        Check.same("five with holes", x.type(0x6100620063006465L), true);
        Check.same("400", x.length(), 400);
        Check.same("none more", x.type(0L), true);
        Check.same("one more", x.type(32L), false);
        Check.same("one more, high", x.type(32L << 56), false);
        Check.same("still 400", x.length(), 400);
        Check.same("400 characters", Check.load(x), "IllegalArgumentException");
        Check.same("a throw changes nothing", x.length(), 400);
    }

    private static void wiping() {
        CircuitProver x = new CircuitProver();
        x.wipe();
        Check.same("wipe of nothing", x.length(), 0);
        Check.typeAll(x, "aag 9");
        x.wipe();
        Check.same("wiped", x.length(), 0);
        Check.same("load wiped", Check.load(x), "IllegalArgumentException");
        Check.typeAll(x, TRUE_OUTPUT);
        Check.same("load", Check.load(x), "0");
        for (int k = 0; k < 50; k++) {
            x.type(Check.part("abcdefgh"));
        }
        x.wipe();
        Check.same("there is room again", x.type(Check.part("abcdefgh")), true);
        Check.same("eight", x.length(), 8);
    }

    private static void textAndCircuitAreApart() {
        CircuitProver x = Check.loaded(TRUE_OUTPUT);
        Check.typeAll(x, "aag 1 1");
        Check.same("circuit while typing", x.circuit(3), 1);
        x.wipe();
        Check.same("circuit after wipe", x.circuit(3), 1);
        Check.same("depth after wipe", x.depth(), 0);
    }
}
