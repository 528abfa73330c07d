/**
 * Reads a circuit of inputs, latches and gates from its text and finds out whether its output can
 * ever be 1: either with the shortest way there, or with a set of states that holds at the
 * beginning, is never left, and never has the output 1, grown by pieces that say no more than is
 * needed.
 *
 * <p>A small circuit has at most 64 states, so a set of states is one long: bit s is state s.
 */
public final class CircuitProver {
    public static final int NONE = -1;

    private final Text text;
    private final Netlist draft;
    private final Machine machine;
    private final Answer answer;
    private final Diagram diagram;
    private boolean loaded;

    public CircuitProver() {
        text = new Text();
        draft = new Netlist();
        machine = new Machine();
        answer = new Answer();
        diagram = new Diagram();
        loaded = false;
    }

    public boolean type(long part) {
        return text.append(part);
    }

    public void wipe() {
        text.clear();
    }

    public int length() {
        return text.used;
    }

    public int load() throws IllegalArgumentException, UnsupportedOperationException {
        // Only the draft is written before the text is known to be good: the old circuit must
        // outlive a load that throws.
        if (!draft.read(text)) {
            throw new IllegalArgumentException("the text is no circuit");
        }
        if (!draft.isSmall()) {
            throw new UnsupportedOperationException("the circuit is not small");
        }
        machine.build(draft);
        answer.find(machine);
        text.clear();
        loaded = true;
        return machine.latches;
    }

    public int circuit(int w) throws IllegalStateException {
        requireCircuit();
        if (w >= 0 && w < Netlist.HEADER) {
            return machine.header[w];
        }
        return w == Netlist.HEADER ? machine.start : NONE;
    }

    public int go(int state, int input) throws IllegalStateException, IndexOutOfBoundsException {
        requireCircuit();
        requirePlace(state, input);
        return machine.next(state, input);
    }

    public boolean output(int state, int input)
            throws IllegalStateException, IndexOutOfBoundsException {
        requireCircuit();
        requirePlace(state, input);
        return machine.hasOutput(state, input);
    }

    public boolean safe() throws IllegalStateException {
        requireCircuit();
        return answer.isSafe();
    }

    public int depth() throws IllegalStateException {
        requireCircuit();
        return answer.steps;
    }

    public int witness(int k) throws IllegalStateException {
        requireCircuit();
        return k >= 0 && k <= answer.steps && k < answer.way.length ? answer.way[k] : NONE;
    }

    public int bound() throws IllegalStateException {
        requireCircuit();
        return answer.isSafe() ? answer.lastNear : NONE;
    }

    public int rounds() throws IllegalStateException {
        requireCircuit();
        return answer.isSafe() ? answer.roundsTaken : NONE;
    }

    public boolean holds(int state) throws IllegalStateException {
        requireCircuit();
        return answer.isSafe() && machine.isState(state) && contains(answer.invariant, state);
    }

    public int count(int which) throws IllegalStateException {
        requireCircuit();
        return isSet(which) ? Long.bitCount(chosenSet(which)) : NONE;
    }

    public int size(int which) throws IllegalStateException {
        requireCircuit();
        return isSet(which) ? diagram.nodes(chosenSet(which), machine.latches) : NONE;
    }

    private void requireCircuit() {
        if (!loaded) {
            throw new IllegalStateException("there is no circuit");
        }
    }

    private void requirePlace(int state, int input) {
        if (!machine.isState(state) || !machine.isInput(input)) {
            throw new IndexOutOfBoundsException("there is no such state or input");
        }
    }

    private boolean isSet(int which) {
        return which == 0 ? answer.isSafe() : which >= 1 && which <= 3;
    }

    private long chosenSet(int which) {
        switch (which) {
            case 0:
                return answer.invariant;
            case 1:
                return answer.reached;
            case 2:
                return machine.bad;
            default:
                return answer.doomed();
        }
    }

    private static boolean contains(long set, int state) {
        return (set >>> state & 1L) != 0;
    }

    /** The typed characters, and how far they have been read. */
    private static final class Text {
        private static final int MOST = 400;
        private static final int LONGEST_LINE = 5;

        private final byte[] letters;
        private final int[] numbers;
        private int used;
        private int place;

        Text() {
            letters = new byte[MOST];
            numbers = new int[LONGEST_LINE];
            used = 0;
            place = 0;
        }

        void clear() {
            used = 0;
        }

        boolean append(long part) {
            int more = lettersIn(part);
            if (more == NONE || used + more > MOST) {
                return false;
            }
            for (int shift = 56; shift >= 0; shift -= 8) {
                int letter = (int) (part >>> shift) & 255;
                if (letter != 0) {
                    letters[used] = (byte) letter;
                    used++;
                }
            }
            return true;
        }

        /** How many characters a part has; NONE if one of them may not be typed. */
        private static int lettersIn(long part) {
            int found = 0;
            for (int shift = 56; shift >= 0; shift -= 8) {
                int letter = (int) (part >>> shift) & 255;
                if (letter != 0) {
                    if (letter != '\n' && (letter < 32 || letter > 126)) {
                        return NONE;
                    }
                    found++;
                }
            }
            return found;
        }

        void readFromFront() {
            place = 0;
        }

        boolean allIsRead() {
            return place == used;
        }

        boolean skip(char letter) {
            if (place < used && letters[place] == letter) {
                place++;
                return true;
            }
            return false;
        }

        /**
         * Reads the next line into numbers and answers how many it has; 0 if what follows is no
         * line, or one longer than any that a circuit has.
         */
        int readLine() {
            for (int k = 0; k < LONGEST_LINE; k++) {
                int number = readNumber();
                if (number == NONE) {
                    return 0;
                }
                numbers[k] = number;
                if (skip('\n')) {
                    return k + 1;
                }
                if (!skip(' ')) {
                    return 0;
                }
            }
            return 0;
        }

        /**
         * Takes no digit behind a 0 at the front and no third one: such a digit then stands where
         * a blank or a newline is due, which refuses the line.
         */
        private int readNumber() {
            int first = readDigit();
            if (first <= 0) {
                return first;
            }
            int second = readDigit();
            return second == NONE ? first : 10 * first + second;
        }

        private int readDigit() {
            if (place < used && letters[place] >= '0' && letters[place] <= '9') {
                place++;
                return letters[place - 1] - '0';
            }
            return NONE;
        }
    }

    /** What the lines of a text say; of inputs and latches only as many as a small circuit has. */
    private static final class Netlist {
        private static final int HEADER = 5;
        private static final int MOST_INPUTS = 3;
        private static final int MOST_LATCHES = 6;
        private static final int MOST_GATES = 20;
        /** A number is at most 99, so there is no literal of a variable above 49. */
        private static final int VARIABLES = 50;
        /** Entry j is the set of all states in which latch j is 1. */
        private static final long[] LATCH_IS_ONE = {
            0xAAAAAAAAAAAAAAAAL, 0xCCCCCCCCCCCCCCCCL, 0xF0F0F0F0F0F0F0F0L,
            0xFF00FF00FF00FF00L, 0xFFFF0000FFFF0000L, 0xFFFFFFFF00000000L
        };

        private final int[] header;
        private final boolean[] defined;
        private final boolean[] mentioned;
        private final boolean[] isGate;
        private final int[] gateLeft;
        private final int[] gateRight;
        private final int[] inputVariable;
        private final int[] latchVariable;
        private final int[] latchNext;
        private int start;
        private int outputLiteral;
        /** By variable, for one input: the set of all states in which it is 1. */
        private final long[] isOne;

        Netlist() {
            header = new int[HEADER];
            defined = new boolean[VARIABLES];
            mentioned = new boolean[VARIABLES];
            isGate = new boolean[VARIABLES];
            gateLeft = new int[VARIABLES];
            gateRight = new int[VARIABLES];
            inputVariable = new int[MOST_INPUTS];
            latchVariable = new int[MOST_LATCHES];
            latchNext = new int[MOST_LATCHES];
            isOne = new long[VARIABLES];
        }

        /** Whether the text is a circuit, small or not. */
        boolean read(Text text) {
            forget();
            text.readFromFront();
            return readHeader(text)
                    && readInputs(text)
                    && readLatches(text)
                    && readOutputs(text)
                    && readGates(text)
                    && text.allIsRead()
                    && allMentionedAreDefined();
        }

        boolean isSmall() {
            return header[1] <= MOST_INPUTS
                    && header[2] <= MOST_LATCHES
                    && header[3] == 1
                    && header[4] <= MOST_GATES;
        }

        private void forget() {
            for (int v = 0; v < VARIABLES; v++) {
                defined[v] = false;
                mentioned[v] = false;
                isGate[v] = false;
            }
            start = 0;
            outputLiteral = 0;
        }

        private boolean readHeader(Text text) {
            boolean opened = text.skip('a') && text.skip('a') && text.skip('g') && text.skip(' ');
            if (!opened || text.readLine() != HEADER) {
                return false;
            }
            System.arraycopy(text.numbers, 0, header, 0, HEADER);
            return true;
        }

        private boolean readInputs(Text text) {
            for (int k = 0; k < header[1]; k++) {
                if (text.readLine() != 1 || !define(text.numbers[0])) {
                    return false;
                }
                if (k < MOST_INPUTS) {
                    inputVariable[k] = text.numbers[0] >> 1;
                }
            }
            return true;
        }

        private boolean readLatches(Text text) {
            for (int k = 0; k < header[2]; k++) {
                int found = text.readLine();
                int first = found == 3 ? text.numbers[2] : 0;
                if (found < 2 || found > 3 || first > 1) {
                    return false;
                }
                if (!define(text.numbers[0]) || !mention(text.numbers[1])) {
                    return false;
                }
                if (k < MOST_LATCHES) {
                    latchVariable[k] = text.numbers[0] >> 1;
                    latchNext[k] = text.numbers[1];
                    start |= first << k;
                }
            }
            return true;
        }

        private boolean readOutputs(Text text) {
            for (int k = 0; k < header[3]; k++) {
                if (text.readLine() != 1 || !mention(text.numbers[0])) {
                    return false;
                }
                outputLiteral = text.numbers[0];
            }
            return true;
        }

        private boolean readGates(Text text) {
            for (int k = 0; k < header[4]; k++) {
                if (text.readLine() != 3 || !readGate(text.numbers)) {
                    return false;
                }
            }
            return true;
        }

        private boolean readGate(int[] numbers) {
            int literal = numbers[0];
            if (numbers[1] >= literal || numbers[2] >= literal) {
                return false;
            }
            if (!define(literal) || !mention(numbers[1]) || !mention(numbers[2])) {
                return false;
            }
            int v = literal >> 1;
            isGate[v] = true;
            gateLeft[v] = numbers[1];
            gateRight[v] = numbers[2];
            return true;
        }

        private boolean define(int literal) {
            int v = literal >> 1;
            if (!isLiteral(literal) || v == 0 || (literal & 1) != 0 || defined[v]) {
                return false;
            }
            defined[v] = true;
            return true;
        }

        /** Whether the variable is defined can only be told when all lines have been read. */
        private boolean mention(int literal) {
            if (!isLiteral(literal)) {
                return false;
            }
            mentioned[literal >> 1] = true;
            return true;
        }

        private boolean isLiteral(int literal) {
            return literal >= 0 && literal <= 2 * header[0] + 1 && literal >> 1 < VARIABLES;
        }

        private boolean allMentionedAreDefined() {
            for (int v = 1; v < VARIABLES; v++) {
                if (mentioned[v] && !defined[v]) {
                    return false;
                }
            }
            return true;
        }

        /** Gives all variables their values with this input, in all states at once. */
        void run(int input) {
            isOne[0] = 0L;
            for (int k = 0; k < header[1] && k < MOST_INPUTS; k++) {
                isOne[inputVariable[k]] = -(long) (input >> k & 1);
            }
            for (int k = 0; k < header[2] && k < MOST_LATCHES; k++) {
                isOne[latchVariable[k]] = LATCH_IS_ONE[k];
            }
            // Gate lines may stand in any order, but a gate's literals are less than its own.
            for (int v = 1; v < VARIABLES; v++) {
                if (isGate[v]) {
                    isOne[v] = statesWith(gateLeft[v]) & statesWith(gateRight[v]);
                }
            }
        }

        /** The set of all states in which a literal is 1, with the input that was run. */
        long statesWith(int literal) {
            return isOne[literal >> 1] ^ -(long) (literal & 1);
        }
    }

    /** The circuit: where one goes, and where the output is 1. */
    private static final class Machine {
        private static final int MOST_STATES = 1 << Netlist.MOST_LATCHES;
        private static final int MOST_INPUTS = 1 << Netlist.MOST_INPUTS;

        private final int[] header;
        private int latches;
        private int states;
        private int inputs;
        private int start;
        /** By input and latch: the set of all states in which the next value is 1. */
        private final long[] nextIsOne;
        /** By input: the set of all states in which the output is 1. */
        private final long[] outputIsOne;
        /** By state: the set of all states where one goes from it. */
        private final long[] after;
        private long bad;

        Machine() {
            header = new int[Netlist.HEADER];
            nextIsOne = new long[MOST_INPUTS * Netlist.MOST_LATCHES];
            outputIsOne = new long[MOST_INPUTS];
            after = new long[MOST_STATES];
        }

        /** Asks for a small circuit. */
        void build(Netlist list) {
            System.arraycopy(list.header, 0, header, 0, Netlist.HEADER);
            latches = Math.min(header[2], Netlist.MOST_LATCHES);
            states = 1 << latches;
            inputs = 1 << Math.min(header[1], Netlist.MOST_INPUTS);
            start = list.start;
            bad = 0L;
            for (int input = 0; input < inputs; input++) {
                list.run(input);
                for (int j = 0; j < latches; j++) {
                    nextIsOne[input * Netlist.MOST_LATCHES + j] =
                            list.statesWith(list.latchNext[j]);
                }
                outputIsOne[input] = list.statesWith(list.outputLiteral) & allStates();
                bad |= outputIsOne[input];
            }
            joinSteps();
        }

        private void joinSteps() {
            for (int state = 0; state < states; state++) {
                after[state] = 0L;
                for (int input = 0; input < inputs; input++) {
                    after[state] |= 1L << next(state, input);
                }
            }
        }

        private long allStates() {
            return -1L >>> MOST_STATES - states;
        }

        boolean isState(int state) {
            return state >= 0 && state < states;
        }

        boolean isInput(int input) {
            return input >= 0 && input < inputs;
        }

        int next(int state, int input) {
            int to = 0;
            for (int j = 0; j < latches; j++) {
                if (contains(nextIsOne[input * Netlist.MOST_LATCHES + j], state)) {
                    to |= 1 << j;
                }
            }
            return to;
        }

        boolean hasOutput(int state, int input) {
            return contains(outputIsOne[input], state);
        }

        /** All states where one goes from those of the set. */
        long post(long set) {
            long all = 0L;
            for (int state = 0; state < states; state++) {
                if (contains(set, state)) {
                    all |= after[state];
                }
            }
            return all;
        }

        /** All states from which one can go to one of the set. */
        long before(long set) {
            long all = 0L;
            for (int state = 0; state < states; state++) {
                if ((after[state] & set) != 0) {
                    all |= 1L << state;
                }
            }
            return all;
        }
    }

    /** Whether the output of a machine can ever be 1, with the way there or the proof. */
    private static final class Answer {
        /** For each near set at most one round for each state, and one that leaves the set. */
        private static final int MOST_ROUNDS = Machine.MOST_STATES * (Machine.MOST_STATES + 1);

        /** Entry k is NEAR(k + 1), as long as these sets grow. */
        private final long[] near;
        private int nearSets;
        private long reached;
        /** The depth, NONE for a safe circuit. */
        private int steps;
        private final int[] way;
        private int lastNear;
        private int roundsTaken;
        private long invariant;

        Answer() {
            near = new long[Machine.MOST_STATES];
            nearSets = 0;
            way = new int[Machine.MOST_STATES];
            steps = NONE;
        }

        void find(Machine machine) {
            findNear(machine);
            findReached(machine);
            findSteps(machine.start);
            if (isSafe()) {
                prove(machine);
            } else {
                findWay(machine);
            }
        }

        boolean isSafe() {
            return steps == NONE;
        }

        /** All states from which a bad one can be reached. */
        long doomed() {
            return nearSet(nearSets);
        }

        /** NEAR(k); the sets behind the last one that grew are all the same. */
        private long nearSet(int k) {
            int last = Math.min(Math.min(k, nearSets), near.length);
            return last < 1 ? 0L : near[last - 1];
        }

        /** Each set but the first has a state more than the one before, so the row is enough. */
        private void findNear(Machine machine) {
            near[0] = machine.bad;
            nearSets = 1;
            for (int k = 1; k < near.length; k++) {
                long grown = near[k - 1] | machine.before(near[k - 1]);
                if (grown == near[k - 1]) {
                    return;
                }
                near[k] = grown;
                nearSets = k + 1;
            }
        }

        private void findReached(Machine machine) {
            reached = 1L << machine.start;
            for (int k = 0; k < Machine.MOST_STATES; k++) {
                long grown = reached | machine.post(reached);
                if (grown == reached) {
                    return;
                }
                reached = grown;
            }
        }

        private void findSteps(int start) {
            steps = NONE;
            for (int k = 0; k < nearSets; k++) {
                if (contains(near[k], start)) {
                    steps = k;
                    return;
                }
            }
        }

        private void findWay(Machine machine) {
            int state = machine.start;
            for (int k = 0; k < steps && k < way.length; k++) {
                way[k] = leastInputInto(machine, state, nearSet(steps - k));
                state = machine.next(state, way[k]);
            }
            if (steps >= 0 && steps < way.length) {
                way[steps] = leastInputWithOutput(machine, state);
            }
        }

        private static int leastInputInto(Machine machine, int state, long set) {
            int input = 0;
            while (input < machine.inputs - 1 && !contains(set, machine.next(state, input))) {
                input++;
            }
            return input;
        }

        private static int leastInputWithOutput(Machine machine, int state) {
            int input = 0;
            while (input < machine.inputs - 1 && !machine.hasOutput(state, input)) {
                input++;
            }
            return input;
        }

        private void prove(Machine machine) {
            long start = 1L << machine.start;
            invariant = start;
            lastNear = 1;
            for (roundsTaken = 1; roundsTaken < MOST_ROUNDS; roundsTaken++) {
                long piece = machine.post(invariant);
                if ((piece & nearSet(lastNear)) != 0) {
                    lastNear++;
                    invariant = start;
                } else {
                    piece = widened(piece, machine.latches);
                    if ((piece & ~invariant) == 0) {
                        return;
                    }
                    invariant |= piece;
                }
            }
        }

        /** The piece without each latch that it can do without, staying off the near states. */
        private long widened(long piece, int latches) {
            long wide = piece;
            for (int j = 0; j < latches; j++) {
                long free = withoutLatch(wide, j);
                if ((free & nearSet(lastNear)) == 0) {
                    wide = free;
                }
            }
            return wide;
        }

        private static long withoutLatch(long set, int j) {
            long ones = Netlist.LATCH_IS_ONE[j];
            int apart = 1 << j;
            return set | (set & ones) >>> apart | (set & ~ones) << apart;
        }
    }

    /** Counts the nodes of a set's decision diagram, latch 0 on top: that is its size. */
    private static final class Diagram {
        private final long[] seen;

        Diagram() {
            seen = new long[Machine.MOST_STATES / 2];
        }

        int nodes(long set, int latches) {
            int all = 0;
            // The states in which all latches below j are 0.
            long lowAreZero = -1L >>> Machine.MOST_STATES - (1 << latches);
            for (int j = 0; j < latches; j++) {
                all += nodesAt(set, j, lowAreZero);
                lowAreZero &= ~Netlist.LATCH_IS_ONE[j];
            }
            return all;
        }

        /**
         * Shifting by the values of the latches below j brings the function that is left to the
         * states in which they are 0, so that equal functions are equal numbers.
         */
        private int nodesAt(long set, int j, long lowAreZero) {
            int found = 0;
            for (int low = 0; low < 1 << j; low++) {
                long function = set >>> low & lowAreZero;
                if (hangsOn(function, j) && !isSeen(function, found) && found < seen.length) {
                    seen[found] = function;
                    found++;
                }
            }
            return found;
        }

        private static boolean hangsOn(long function, int j) {
            long ones = Netlist.LATCH_IS_ONE[j];
            return (function & ones) >>> (1 << j) != (function & ~ones);
        }

        private boolean isSeen(long function, int found) {
            for (int k = 0; k < found && k < seen.length; k++) {
                if (seen[k] == function) {
                    return true;
                }
            }
            return false;
        }
    }
}
