/** The boundary cases of promises 1 to 4: each method has one sentence of the document. */
final class TextEdgeTest {
    private static final String GOOD = "aag 1 0 1 1 0\n2 3 1\n2\n";
    private static final int[] MAY = {10, 32, 33, 125, 126};
    private static final int[] MAY_NOT = {1, 9, 11, 13, 31, 127, 128, 138, 160, 254, 255};

    public static void main(String[] args) {
        newObjectHasAnEmptyText();
        newObjectHasNoCircuit();
        bytesOnBothSides();
        refusedBytesLeaveTheText();
        zeroBytesArePassedOver();
        highestByteIsFirst();
        everyLengthUpToFourHundred();
        roomOnBothSides();
        zeroBytesTakeNoRoom();
        refusedAtFourHundredLeavesTheText();
        fourHundredCharactersAreRead();
        everyEndOfAFullText();
        oneCharacterMoreIsRefused();
        whatStoodThereBeforeIsGone();
        wipeOfAnEmptyAndOfAFullText();
        wipeLeavesTheCircuit();
        lengthAfterLoads();
        fiveHundredAndTwelveCalls();
        objectsAreApart();
        Check.end("TextEdgeTest");
    }

    /** "An empty text". */
    private static void newObjectHasAnEmptyText() {
        CircuitProver x = new CircuitProver();
        Check.same("length of a new object", x.length(), 0);
        Check.same("load of a new object", Check.load(x), Loads.NO_CIRCUIT);
        Check.same("length after the load", x.length(), 0);
        Check.same("typing", Check.typeAll(x, GOOD), true);
        Check.same("load", Check.load(x), "1");
    }

    /** "no circuit": also after loads that throw, and whatever the arguments are. */
    private static void newObjectHasNoCircuit() {
        CircuitProver x = new CircuitProver();
        noCircuit(x);
        Check.typeAll(x, "aag 1 1 0 1 0\n2\n4\n");
        Check.same("load of no circuit", Check.load(x), Loads.NO_CIRCUIT);
        noCircuit(x);
        x.wipe();
        Check.typeAll(x, "aag 0 0 0 2 0\n0\n1\n");
        Check.same("load of a circuit that is not small", Check.load(x), Loads.NOT_SMALL);
        noCircuit(x);
        x.wipe();
        Check.typeAll(x, GOOD);
        noCircuit(x);
        Check.same("load", Check.load(x), "1");
        Check.same("a circuit", Check.answer(() -> x.circuit(0)), "1");
    }

    private static void noCircuit(CircuitProver x) {
        String none = "IllegalStateException";
        for (int n : new int[] {Integer.MIN_VALUE, -1, 0, 6, 64, Integer.MAX_VALUE}) {
            Check.same("circuit", Check.answer(() -> x.circuit(n)), none);
            Check.same("go", Check.answer(() -> x.go(n, 0)), none);
            Check.same("go", Check.answer(() -> x.go(0, n)), none);
            Check.same("output", Check.answer(() -> x.output(n, 0) ? 1 : 0), none);
            Check.same("output", Check.answer(() -> x.output(0, n) ? 1 : 0), none);
            Check.same("witness", Check.answer(() -> x.witness(n)), none);
            Check.same("holds", Check.answer(() -> x.holds(n) ? 1 : 0), none);
            Check.same("count", Check.answer(() -> x.count(n)), none);
            Check.same("size", Check.answer(() -> x.size(n)), none);
        }
        Check.same("safe", Check.answer(() -> x.safe() ? 1 : 0), none);
        Check.same("depth", Check.answer(x::depth), none);
        Check.same("bound", Check.answer(x::bound), none);
        Check.same("rounds", Check.answer(x::rounds), none);
    }

    /** "false if another byte is not 10 or 32 .. 126": in each of the eight places. */
    private static void bytesOnBothSides() {
        long letters = Check.part("abcdefgh");
        for (int shift = 0; shift < 64; shift += 8) {
            long others = letters & ~(255L << shift);
            CircuitProver x = new CircuitProver();
            int length = 0;
            for (int letter : MAY) {
                Check.same("byte " + letter, x.type(others | (long) letter << shift), true);
                length += 8;
                Check.same("length", x.length(), length);
            }
            for (int letter : MAY_NOT) {
                Check.same("byte " + letter, x.type(others | (long) letter << shift), false);
                Check.same("alone " + letter, x.type((long) letter << shift), false);
                Check.same("length", x.length(), length);
            }
        }
    }

    /** "A call that answers false .. changes nothing": the text is still the one typed before. */
    private static void refusedBytesLeaveTheText() {
        for (int cut = 0; cut <= GOOD.length(); cut++) {
            CircuitProver x = new CircuitProver();
            Check.typeAll(x, GOOD.substring(0, cut));
            Check.same("bad last", x.type(Check.part("0 0 0 0\t")), false);
            Check.same("bad first", x.type(0x8030203020302030L), false);
            Check.same("bad between", x.type(0x300000007F000030L), false);
            Check.same("length", x.length(), cut);
            Check.typeAll(x, GOOD.substring(cut));
            Check.same("load, refused at " + cut, Check.load(x), "1");
            Check.same("START, refused at " + cut, x.circuit(5), 1);
        }
    }

    /** "bytes that are 0 are passed over". */
    private static void zeroBytesArePassedOver() {
        CircuitProver x = new CircuitProver();
        Check.same("eight zero bytes", x.type(0L), true);
        Check.same("length", x.length(), 0);
        for (int k = 0; k < GOOD.length(); k++) {
            Check.same("one among zeros", x.type((long) GOOD.charAt(k) << 8 * (k % 8)), true);
            Check.same("length", x.length(), k + 1);
        }
        Check.same("load", Check.load(x), "1");
        Check.same("START", x.circuit(5), 1);
    }

    /** "the eight bytes of part, the highest first". */
    private static void highestByteIsFirst() {
        CircuitProver x = new CircuitProver();
        x.type(0x6161672031203020L);
        x.type(0x312031200030000AL);
        x.type(0x0000322033000A00L);
        x.type(0x3200000000000000L);
        x.type(0x000000000000000AL);
        Check.same("load", Check.load(x), "1");
        Check.same("M", x.circuit(0), 1);
        Check.typeAll(x, "aag 1 0 1 1 0\n2 3\n");
        Check.same("the wrong way round", x.type(0x0A32L), true);
        Check.same("load", Check.load(x), Loads.NO_CIRCUIT);
    }

    /** "How many characters the text has", from 0 to 400, one by one. */
    private static void everyLengthUpToFourHundred() {
        CircuitProver x = new CircuitProver();
        for (int k = 1; k <= 400; k++) {
            Check.same("character " + k, x.type('x'), true);
            if (k % 5 == 0 || k > 390) {
                Check.same("length", x.length(), k);
            }
        }
        Check.same("character 401", x.type('x'), false);
        Check.same("length", x.length(), 400);
    }

    /** "or there would be more than 400": each room that is left, and each length of a part. */
    private static void roomOnBothSides() {
        for (int room = 0; room <= 8; room++) {
            for (int more = 0; more <= 8; more++) {
                CircuitProver x = filled(400 - room);
                long part = Check.part("xxxxxxxx".substring(0, more));
                String what = more + " characters where there is room for " + room;
                Check.same(what, x.type(part), more <= room);
                int length = 400 - room + (more <= room ? more : 0);
                Check.same("length then", x.length(), length);
                Check.same("what fits", x.type(Check.part("xxxxxxxx".substring(0, 400 - length))),
                        true);
                Check.same("length then", x.length(), 400);
                Check.same("one more", x.type('x'), false);
            }
        }
    }

    private static CircuitProver filled(int characters) {
        CircuitProver x = new CircuitProver();
        Check.same("typing", Check.typeAll(x, "x".repeat(characters)), true);
        Check.same("length", x.length(), characters);
        return x;
    }

    /** Bytes that are 0 add nothing, so that they also pass where there is no room. */
    private static void zeroBytesTakeNoRoom() {
        CircuitProver x = filled(398);
        Check.same("three in eight bytes", x.type(0x6100006200000063L), false);
        Check.same("two in eight bytes", x.type(0x6100000000000063L), true);
        Check.same("length", x.length(), 400);
        Check.same("none in eight bytes", x.type(0L), true);
        Check.same("one in eight bytes", x.type(0x0000006100000000L), false);
        Check.same("one that may not be typed", x.type(0x0000000900000000L), false);
        Check.same("length", x.length(), 400);
    }

    /** A part that does not fit adds none of its characters. */
    private static void refusedAtFourHundredLeavesTheText() {
        String text = fourHundred();
        CircuitProver x = new CircuitProver();
        Check.typeAll(x, text.substring(0, 395));
        Check.same("six", x.type(Check.part(text.substring(394))), false);
        Check.same("eight", x.type(Check.part("98\n98\n98")), false);
        Check.same("length", x.length(), 395);
        Check.same("five", x.type(Check.part(text.substring(395))), true);
        Check.same("load of the 400", Check.load(x), Loads.NOT_SMALL);
        Check.same("one more", x.type('\n'), false);
        Check.same("load of the 400", Check.load(x), Loads.NOT_SMALL);
        Check.same("length", x.length(), 400);
    }

    /** A circuit of 400 characters with 45 latches and 8 outputs. */
    private static String fourHundred() {
        StringBuilder text = new StringBuilder("aag 49 0 45 8 0\n");
        for (int v = 5; v < 50; v++) {
            text.append(2 * v).append(" 10 1\n");
        }
        return text.append("98\n".repeat(8)).toString();
    }

    /** "THE TEXT has at most 400 characters": the last one is read as well. */
    private static void fourHundredCharactersAreRead() {
        String text = fourHundred();
        Check.same("characters", text.length(), 400);
        CircuitProver x = new CircuitProver();
        Check.typeAll(x, text.substring(0, 399));
        Check.same("load of 399", Check.load(x), Loads.NO_CIRCUIT);
        Check.same("the last", x.type('\n'), true);
        Check.same("load of 400", Check.load(x), Loads.NOT_SMALL);
        Check.same("length", x.length(), 400);
        x.wipe();
        Check.typeAll(x, text.substring(0, 399) + "0");
        Check.same("load of 400 with another end", Check.load(x), Loads.NO_CIRCUIT);
    }

    /** Nothing is looked for beyond character 400, wherever in its last line the text ends. */
    private static void everyEndOfAFullText() {
        for (String end : new String[] {"", "9", "98", "98 ", "0", "0 ", "0 1", "1 ", "\n", "x"}) {
            CircuitProver x = new CircuitProver();
            Check.same("typing", Check.typeAll(x, endingWith(end)), true);
            Check.same("length", x.length(), 400);
            Check.same("load of 400 up to " + end, Check.load(x), Loads.NO_CIRCUIT);
            Check.same("length", x.length(), 400);
        }
    }

    /** 400 characters: all lines of a circuit with nine outputs but the last, and this end. */
    private static String endingWith(String end) {
        String latches = fourHundred().substring(0, 376).replace("5 8 0\n", "5 9 0\n");
        StringBuilder text = new StringBuilder(latches);
        while (text.length() + end.length() < 400) {
            text.append((400 - text.length() - end.length()) % 3 == 0 ? "98\n" : "0\n");
        }
        return text.append(end).toString();
    }

    /** What was typed, wiped or loaded before is not read behind the end of a shorter text. */
    private static void whatStoodThereBeforeIsGone() {
        for (int cut = 0; cut < GOOD.length(); cut++) {
            CircuitProver x = new CircuitProver();
            Check.typeAll(x, GOOD);
            x.wipe();
            Check.typeAll(x, GOOD.substring(0, cut));
            Check.same("load after wipe of " + cut, Check.load(x), Loads.NO_CIRCUIT);
            Check.typeAll(x, GOOD.substring(cut));
            Check.same("load of all", Check.load(x), "1");
            Check.typeAll(x, GOOD.substring(0, cut));
            Check.same("load after load of " + cut, Check.load(x), Loads.NO_CIRCUIT);
            Check.same("length", x.length(), cut);
        }
    }

    /** A circuit of 401 characters cannot be typed; without the newline it is none. */
    private static void oneCharacterMoreIsRefused() {
        String text = fourHundred().replace("5 8 0\n", "5 9 0\n").replace("98 10 1", "98 0 1");
        text += "0\n";
        Check.same("characters", text.length(), 401);
        CircuitProver x = new CircuitProver();
        Check.same("400 of them", Check.typeAll(x, text.substring(0, 400)), true);
        Check.same("the last", x.type('\n'), false);
        Check.same("length", x.length(), 400);
        Check.same("load", Check.load(x), Loads.NO_CIRCUIT);
    }

    /** "The text becomes empty." */
    private static void wipeOfAnEmptyAndOfAFullText() {
        CircuitProver x = new CircuitProver();
        x.wipe();
        Check.same("length of an empty one", x.length(), 0);
        Check.typeAll(x, "y".repeat(400));
        Check.same("no room", x.type('y'), false);
        x.wipe();
        Check.same("length of a full one", x.length(), 0);
        Check.same("load", Check.load(x), Loads.NO_CIRCUIT);
        Check.same("400 again", Check.typeAll(x, "y".repeat(400)), true);
        Check.same("no room again", x.type('y'), false);
        x.wipe();
        x.wipe();
        Check.typeAll(x, GOOD);
        Check.same("load", Check.load(x), "1");
    }

    /** It is the text that becomes empty, not the circuit. */
    private static void wipeLeavesTheCircuit() {
        CircuitProver x = Check.loaded(GOOD);
        String picture = Picture.of(x);
        x.wipe();
        Check.same("after wipe", Picture.of(x), picture);
        Check.typeAll(x, "aag 0 0 0 1 0\n");
        x.wipe();
        Check.same("after typing and wipe", Picture.of(x), picture);
        Check.typeAll(x, "0\n");
        Check.same("what was wiped is gone", Check.load(x), Loads.NO_CIRCUIT);
    }

    /** A load empties the text if it answers, and leaves it if it throws. */
    private static void lengthAfterLoads() {
        CircuitProver x = new CircuitProver();
        Check.typeAll(x, GOOD.substring(0, GOOD.length() - 1));
        Check.same("load without the end", Check.load(x), Loads.NO_CIRCUIT);
        Check.same("length", x.length(), GOOD.length() - 1);
        x.type('\n');
        Check.same("load with the end", Check.load(x), "1");
        Check.same("length", x.length(), 0);
        Check.same("400 again", Check.typeAll(x, "z".repeat(400)), true);
        Check.same("no room", x.type('z'), false);
        Check.same("load", Check.load(x), Loads.NO_CIRCUIT);
        Check.same("length", x.length(), 400);
    }

    /** "An object is used for at most 512 calls": all of them are answered. */
    private static void fiveHundredAndTwelveCalls() {
        CircuitProver x = new CircuitProver();
        int calls = 0;
        for (; calls < 400; calls++) {
            x.type('x');
        }
        for (; calls < 507; calls++) {
            Check.same("no room", x.type('x'), false);
        }
        x.wipe();
        x.type(Check.part("aag 0 0 "));
        x.type(Check.part("0 1 0\n1\n"));
        Check.same("length", x.length(), 16);
        Check.same("load, call 512", Check.load(x), "0");
        x = Check.loaded(GOOD);
        for (calls = 4; calls < 512; calls++) {
            Check.same("go, call " + calls, x.go(calls % 2, 0), 1 - calls % 2);
        }
    }

    /** "A new object" has nothing of another one. */
    private static void objectsAreApart() {
        CircuitProver one = new CircuitProver();
        CircuitProver two = new CircuitProver();
        Check.typeAll(one, GOOD);
        Check.same("length of the other", two.length(), 0);
        Check.typeAll(two, "aag 0 0 0 1 0\n");
        Check.same("load", Check.load(one), "1");
        String picture = Picture.of(one);
        Check.same("circuit of the other", Check.answer(() -> two.circuit(0)),
                "IllegalStateException");
        Check.typeAll(two, "0\n");
        Check.same("load of the other", Check.load(two), "0");
        Check.same("the one after that", Picture.of(one), picture);
        Check.same("a new one then", Check.answer(() -> new CircuitProver().circuit(0)),
                "IllegalStateException");
    }
}
