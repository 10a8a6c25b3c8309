import java.util.Arrays;
import java.util.NoSuchElementException;

/**
 * A front end of a processor that fetches windows of bytes, marks instructions of different lengths,
 * fuses pairs, decodes in lanes, replays small loops from a buffer, and explains each lane that stays
 * unused. The numbers in the comments are those of the sections and promises of the document.
 */
public final class FusionFront {
    public static final int NONE = -1;

    private static final int MOST_BYTES = 600;
    private static final int MOST_INSTRUCTIONS = 60;
    private static final int MOST_RULES = 6;
    private static final int MOST_QUEUE = 20;
    private static final int MOST_NESTED = 2;
    private static final int MOST_REPEATS = 9;
    private static final int MOST_TIMES = 99;
    private static final int MOST_AHEAD = 9;
    private static final int MOST_CYCLES = 500;
    private static final int MOST_STALL = 99;
    private static final int MOST_MORE = 999;
    private static final int MOST_TO_DECODE = 9999;
    private static final int MOST_CHANGES = 6;
    private static final int RECENT = 100;
    private static final int PAUSE = 4;
    private static final int LENGTH_PAUSE = 3;
    // The longest line of printInstruction has 19 bytes.
    private static final int OUTPUT_ROOM = 32;

    private static final int KINDS = 10;
    private static final int JUMP = 8;
    private static final int BRANCH = 9;
    private static final int[] LENGTHS = {1, 2, 3, 4, 4, 3, 2, 3, 2, 2};
    private static final int[] KIND_OPS = {1, 1, 1, 1, 2, 1, 1, 4, 1, 1};

    // The settings stand in the order in which count tells them, from FIRST_SETTING on.
    private static final int SETTINGS = 6;
    private static final int FIRST_SETTING = 2;
    private static final int LANES = 0;
    private static final int WINDOW = 1;
    private static final int QUEUE = 2;
    private static final int OPS = 3;
    private static final int RATE = 4;
    private static final int LOOP = 5;
    private static final int[] LEAST = {1, 8, 2, 4, 1, 0};
    private static final int[] GREATEST = {6, 32, 20, 40, 8, 30};
    private static final int[] USUAL = {4, 16, 8, 16, 4, 0};

    // The counters stand in the order in which count tells them, from FIRST_COUNTER on.
    private static final int COUNTERS = 9;
    private static final int FIRST_COUNTER = 9;
    private static final int CYCLES = 0;
    private static final int DECODED = 1;
    private static final int DECODED_OPS = 2;
    private static final int FUSED_UNITS = 3;
    private static final int WINDOWS = 4;
    private static final int CUTS = 5;
    private static final int WRONG = 6;
    private static final int LOOPS = 7;
    private static final int FROM_LOOPS = 8;

    // Why lanes stay unused; GOES_ON is none of these causes.
    private static final int CAUSES = 8;
    private static final int GOES_ON = 0;
    private static final int NOT_FETCHED = 1;
    private static final int CUT = 2;
    private static final int LONG = 3;
    private static final int PAUSED = 4;
    private static final int LANE_TOO_SMALL = 5;
    private static final int OPS_FULL = 6;
    private static final int TAKEN = 7;
    private static final int AT_END = 8;
    private static final int[] NO_UNUSED = {0, 0, 0, 0, 0, 0, 0, 0, 0};

    private static final int CANNOT_STAND = 1;
    private static final int OUT_OF_RANGE = 2;
    private static final int STANDS_ALREADY = 3;
    private static final int TOO_MANY = 4;

    private final byte[] input;
    private int inputLength;
    private final Parser parser;
    private final Output output;
    private Program program;
    private Program spare;
    private final Front front;
    private final Front ahead;
    private final Front saved;
    private boolean hasSaved;
    private final History history;
    private final PlainDecoder plainDecoder;

    public FusionFront() {
        input = new byte[MOST_BYTES];
        parser = new Parser();
        output = new Output();
        program = new Program();
        spare = new Program();
        front = new Front(program);
        ahead = new Front(program);
        saved = new Front(program);
        history = new History(program);
        plainDecoder = new PlainDecoder();
    }

    public int feed(int a, int b, int c, int d, int e) {
        if (inputLength + 20 > MOST_BYTES) {
            return NONE;
        }
        append(a);
        append(b);
        append(c);
        append(d);
        append(e);
        return inputLength;
    }

    private void append(int word) {
        for (int shift = 24; shift >= 0 && inputLength < input.length; shift -= 8) {
            input[inputLength] = (byte) (word >> shift);
            inputLength++;
        }
    }

    public boolean truncate(int length) {
        if (length < 0 || length > inputLength) {
            return false;
        }
        inputLength = length;
        return true;
    }

    public int parse() {
        boolean fine = parser.readText(input, inputLength, spare);
        inputLength = 0;
        if (!fine) {
            return NONE;
        }
        Program old = program;
        program = spare;
        spare = old;
        front.begin(program);
        history.forget();
        hasSaved = false;
        return program.size;
    }

    public int errorCode() {
        return parser.code;
    }

    public int errorOffset() {
        return parser.offset;
    }

    // ---- what there is

    public int count(int what) {
        if (what >= FIRST_SETTING && what < FIRST_SETTING + SETTINGS) {
            return front.settings[what - FIRST_SETTING];
        }
        if (what >= FIRST_COUNTER && what < FIRST_COUNTER + COUNTERS) {
            return front.tally.counters[what - FIRST_COUNTER];
        }
        switch (what) {
            case 0:
                return program.size;
            case 1:
                return program.bytes();
            case 8:
                return front.rules.size;
            case 18:
                return front.waiting;
            case 19:
                return front.queue.size;
            case 20:
                return front.place;
            case 21:
                return front.pause;
            case 22:
                return front.lengthPause;
            case 23:
                return front.stallLeft;
            case 24:
                return history.size;
            default:
                return NONE;
        }
    }

    public int instruction(int number, int what) throws IndexOutOfBoundsException {
        if (number < 0 || number >= program.size) {
            throw new IndexOutOfBoundsException("no such instruction");
        }
        switch (what) {
            case 0:
                return program.kinds[number];
            case 1:
                return program.starts[number];
            case 2:
                return program.lengthOf(number);
            case 3:
                return program.ops[number];
            case 4:
                return program.targets[number];
            case 5:
                return program.kinds[number] == BRANCH ? program.taken[number] : NONE;
            case 6:
                return program.longs[number] ? 1 : 0;
            case 7:
                return predictionOf(number);
            default:
                throw new IndexOutOfBoundsException("no such property");
        }
    }

    private int predictionOf(int number) {
        if (!program.isJumpOrBranch(number)) {
            return NONE;
        }
        return front.predictsTaken(number) ? 1 : 0;
    }

    public int at(int address) {
        if (address < 0) {
            return NONE;
        }
        for (int number = 0; number < program.size; number++) {
            if (address < program.startOf(number + 1)) {
                return number;
            }
        }
        return NONE;
    }

    public boolean crosses(int number) throws IndexOutOfBoundsException {
        if (number < 0 || number >= program.size) {
            throw new IndexOutOfBoundsException("no such instruction");
        }
        return program.crossesWindows(number);
    }

    public boolean fuses(int number) throws IndexOutOfBoundsException {
        if (number < 0 || number >= program.size) {
            throw new IndexOutOfBoundsException("no such instruction");
        }
        return front.fusesWithNext(number);
    }

    public boolean isLoopable(int number) throws IndexOutOfBoundsException {
        if (number < 0 || number >= program.size) {
            throw new IndexOutOfBoundsException("no such instruction");
        }
        return front.closesLoop(number);
    }

    public int fusable() {
        int many = 0;
        for (int number = 0; number < program.size; number++) {
            if (front.fusesWithNext(number)) {
                many++;
            }
        }
        return many;
    }

    public int crossing() {
        int many = 0;
        for (int number = 0; number < program.size; number++) {
            if (program.crossesWindows(number)) {
                many++;
            }
        }
        return many;
    }

    public int ofKind(int kind, boolean decoded) throws IllegalArgumentException {
        if (kind < 0 || kind >= KINDS) {
            throw new IllegalArgumentException("no such kind");
        }
        int many = 0;
        for (int number = 0; number < program.size; number++) {
            if (program.kinds[number] == kind) {
                many += decoded ? front.tally.perInstruction[number] : 1;
            }
        }
        return many;
    }

    public int rule(int rule, boolean second) throws IndexOutOfBoundsException {
        if (rule < 0 || rule >= front.rules.size) {
            throw new IndexOutOfBoundsException("no such rule");
        }
        return second ? front.rules.seconds[rule] : front.rules.firsts[rule];
    }

    public int queueAt(int index) throws NoSuchElementException {
        if (index < 0 || index >= front.queue.size) {
            throw new NoSuchElementException("no such index in the queue");
        }
        return front.queue.numbers[index];
    }

    public int loop(int what) throws IllegalArgumentException {
        if (what < 0 || what > 3) {
            throw new IllegalArgumentException("no such property of a loop");
        }
        Replay replay = front.replay;
        if (!replay.goesOn) {
            return NONE;
        }
        switch (what) {
            case 0:
                return replay.first;
            case 1:
                return replay.last;
            case 2:
                return replay.next;
            default:
                return replay.ops;
        }
    }

    public boolean isCut() {
        return front.cut;
    }

    // ---- what happened

    public int bubbles(int cause) throws IllegalArgumentException {
        if (cause < 1 || cause > CAUSES) {
            throw new IllegalArgumentException("no such cause");
        }
        return front.tally.unused[cause];
    }

    public int mainCause() {
        return front.tally.mostUnusedSince(NO_UNUSED);
    }

    public int decoded(int back) throws NoSuchElementException {
        int many = front.tally.counters[DECODED];
        if (back < 0 || back >= many || back >= RECENT) {
            throw new NoSuchElementException("not one of the latest decoded instructions");
        }
        return front.tally.recent[(many - 1 - back) % RECENT];
    }

    public int plain(int index) throws IllegalArgumentException {
        if (index < 0 || index > MOST_TO_DECODE) {
            throw new IllegalArgumentException("index out of range");
        }
        plainDecoder.begin();
        int number = NONE;
        for (int step = 0; step <= index; step++) {
            number = plainDecoder.next(program);
        }
        return number;
    }

    public boolean agrees() {
        return front.tally.likePlain >= Math.min(RECENT, front.tally.counters[DECODED]);
    }

    public int times(int number) throws IndexOutOfBoundsException {
        if (number < 0 || number >= program.size) {
            throw new IndexOutOfBoundsException("no such instruction");
        }
        return front.tally.perInstruction[number];
    }

    public double perCycle() {
        int cycles = front.tally.counters[CYCLES];
        if (cycles <= 0) {
            return 0.0;
        }
        return (double) front.tally.counters[DECODED] / (double) cycles;
    }

    public float fusedShare() {
        int many = front.tally.counters[DECODED];
        if (many <= 0) {
            return 0.0f;
        }
        return (float) (2 * front.tally.counters[FUSED_UNITS]) / (float) many;
    }

    // ---- Changes

    public int run(int cycles) throws IllegalArgumentException {
        if (cycles < 1 || cycles > MOST_CYCLES) {
            throw new IllegalArgumentException("cycles out of range");
        }
        history.remember(front);
        return front.decodeFor(cycles);
    }

    public int runTo(int many) throws IllegalArgumentException {
        if (many < 0 || many > MOST_TO_DECODE) {
            throw new IllegalArgumentException("many out of range");
        }
        history.remember(front);
        int cycles = 0;
        while (cycles < MOST_CYCLES && front.tally.counters[DECODED] < many) {
            front.passCycle();
            cycles++;
        }
        return cycles;
    }

    public int stall(int cycles) throws IllegalArgumentException {
        if (cycles < 0 || cycles > MOST_STALL) {
            throw new IllegalArgumentException("cycles out of range");
        }
        history.remember(front);
        int left = front.stallLeft;
        front.stallLeft = cycles;
        return left;
    }

    public int set(int what, int value) throws IllegalArgumentException {
        int setting = what - FIRST_SETTING;
        if (setting != LANES && setting != RATE && setting != LOOP) {
            throw new IllegalArgumentException("no setting that can be set");
        }
        if (!isAllowed(setting, value)) {
            throw new IllegalArgumentException("value out of range");
        }
        history.remember(front);
        int before = front.settings[setting];
        front.settings[setting] = value;
        return before;
    }

    private static boolean isAllowed(int setting, int value) {
        if (setting < 0 || setting >= SETTINGS) {
            return false;
        }
        if (setting == WINDOW) {
            return value == 8 || value == 16 || value == 32;
        }
        return value >= LEAST[setting] && value <= GREATEST[setting];
    }

    public int addRule(int first, int second) throws IllegalArgumentException, IllegalStateException {
        if (!isRule(first, second)) {
            throw new IllegalArgumentException("a kind out of range");
        }
        if (front.rules.has(first, second)) {
            throw new IllegalStateException("there is such a rule already");
        }
        if (front.rules.size >= MOST_RULES) {
            throw new IllegalStateException("no more rules");
        }
        history.remember(front);
        front.rules.append(first, second);
        return front.rules.size - 1;
    }

    private static boolean isRule(int first, int second) {
        return first >= 0 && first < JUMP && second >= 0 && second < KINDS;
    }

    public int removeRule(int rule) throws IndexOutOfBoundsException {
        if (rule < 0 || rule >= front.rules.size) {
            throw new IndexOutOfBoundsException("no such rule");
        }
        history.remember(front);
        int kinds = 10 * front.rules.firsts[rule] + front.rules.seconds[rule];
        front.rules.takeOut(rule);
        return kinds;
    }

    public int redirect(int number) throws IndexOutOfBoundsException {
        if (number < 0 || number >= program.size) {
            throw new IndexOutOfBoundsException("no such instruction");
        }
        history.remember(front);
        int many = front.queue.size;
        front.goTo(number);
        return many;
    }

    public int undo() throws IllegalStateException {
        if (history.size <= 0) {
            throw new IllegalStateException("nothing can be undone");
        }
        history.takeBack(front);
        return history.size;
    }

    // ---- forecasts

    public int cyclesTo(int more) throws IllegalArgumentException {
        if (more < 1 || more > MOST_MORE) {
            throw new IllegalArgumentException("more out of range");
        }
        ahead.copyFrom(front);
        int wanted = front.tally.counters[DECODED] + more;
        for (int cycle = 1; cycle <= MOST_CYCLES; cycle++) {
            ahead.passCycle();
            if (ahead.tally.counters[DECODED] >= wanted) {
                return cycle;
            }
        }
        return NONE;
    }

    public int nextBubbles(int cause) throws IllegalArgumentException {
        if (cause < 1 || cause > CAUSES) {
            throw new IllegalArgumentException("no such cause");
        }
        ahead.copyFrom(front);
        ahead.passCycle();
        return ahead.tally.unused[cause] - front.tally.unused[cause];
    }

    public int bubblesIn(int cycles, int cause) throws IllegalArgumentException {
        if (cycles < 1 || cycles > MOST_CYCLES) {
            throw new IllegalArgumentException("cycles out of range");
        }
        if (cause < 1 || cause > CAUSES) {
            throw new IllegalArgumentException("no such cause");
        }
        ahead.copyFrom(front);
        ahead.decodeFor(cycles);
        return ahead.tally.unused[cause] - front.tally.unused[cause];
    }

    public int roomNeeded(int cycles) throws IllegalArgumentException {
        if (cycles < 1 || cycles > MOST_CYCLES) {
            throw new IllegalArgumentException("cycles out of range");
        }
        ahead.copyFrom(front);
        int most = ahead.waiting;
        for (int cycle = 0; cycle < cycles; cycle++) {
            ahead.passCycle();
            most = Math.max(most, ahead.waiting);
        }
        return most;
    }

    public int bestLanes(int cycles) throws IllegalArgumentException {
        if (cycles < 1 || cycles > MOST_CYCLES) {
            throw new IllegalArgumentException("cycles out of range");
        }
        return bestValue(LANES, cycles);
    }

    public int bestRate(int cycles) throws IllegalArgumentException {
        if (cycles < 1 || cycles > MOST_CYCLES) {
            throw new IllegalArgumentException("cycles out of range");
        }
        return bestValue(RATE, cycles);
    }

    public int bestLoop(int cycles) throws IllegalArgumentException {
        if (cycles < 1 || cycles > MOST_CYCLES) {
            throw new IllegalArgumentException("cycles out of range");
        }
        return bestValue(LOOP, cycles);
    }

    private int bestValue(int setting, int cycles) {
        if (setting < 0 || setting >= SETTINGS) {
            return NONE;
        }
        int best = NONE;
        int most = NONE;
        for (int value = LEAST[setting]; value <= GREATEST[setting]; value++) {
            ahead.copyFrom(front);
            ahead.settings[setting] = value;
            int many = ahead.decodeFor(cycles);
            if (many > most) {
                most = many;
                best = value;
            }
        }
        return best;
    }

    public int cyclesUntil(int number) throws IndexOutOfBoundsException {
        if (number < 0 || number >= program.size) {
            throw new IndexOutOfBoundsException("no such instruction");
        }
        ahead.copyFrom(front);
        int before = front.tally.perInstruction[number];
        for (int cycle = 1; cycle <= MOST_CYCLES; cycle++) {
            ahead.passCycle();
            if (ahead.tally.perInstruction[number] > before) {
                return cycle;
            }
        }
        return NONE;
    }

    public int mainCauseIn(int cycles) throws IllegalArgumentException {
        if (cycles < 1 || cycles > MOST_CYCLES) {
            throw new IllegalArgumentException("cycles out of range");
        }
        ahead.copyFrom(front);
        ahead.decodeFor(cycles);
        return ahead.tally.mostUnusedSince(front.tally.unused);
    }

    public int ruleGain(int first, int second, int cycles) throws IllegalArgumentException {
        if (!isRule(first, second)) {
            throw new IllegalArgumentException("a kind out of range");
        }
        if (cycles < 1 || cycles > MOST_CYCLES) {
            throw new IllegalArgumentException("cycles out of range");
        }
        if (front.rules.has(first, second)) {
            return 0;
        }
        ahead.copyFrom(front);
        int without = ahead.decodeFor(cycles);
        ahead.copyFrom(front);
        ahead.rules.append(first, second);
        return ahead.decodeFor(cycles) - without;
    }

    // ---- output and state

    public int printInstruction(int number) throws IndexOutOfBoundsException {
        if (number < 0 || number >= program.size) {
            throw new IndexOutOfBoundsException("no such instruction");
        }
        output.clear();
        output.addNumber(program.starts[number]);
        output.addByte(' ');
        if (program.longs[number]) {
            output.addText("long ");
        }
        output.addText(wordOfKind(program.kinds[number]));
        if (program.isJumpOrBranch(number)) {
            output.addByte(' ');
            output.addNumber(program.targets[number]);
        }
        if (front.fusesWithNext(number)) {
            output.addByte('+');
        }
        return output.length;
    }

    public int outputByte(int index) {
        if (index < 0 || index >= output.length) {
            return NONE;
        }
        return output.bytes[index];
    }

    public int saveState() {
        saved.copyFrom(front);
        hasSaved = true;
        return front.tally.counters[CYCLES];
    }

    public int restoreState() throws IllegalStateException {
        if (!hasSaved) {
            throw new IllegalStateException("no state is saved");
        }
        front.copyFrom(saved);
        history.forget();
        return front.tally.counters[CYCLES];
    }

    private static String wordOfKind(int kind) {
        switch (kind) {
            case 0:
                return "nop";
            case 1:
                return "add";
            case 2:
                return "mov";
            case 3:
                return "load";
            case 4:
                return "store";
            case 5:
                return "cmp";
            case 6:
                return "test";
            case 7:
                return "div";
            case JUMP:
                return "jump";
            default:
                return "branch";
        }
    }

    private static String wordOfSetting(int setting) {
        switch (setting) {
            case LANES:
                return "lanes";
            case WINDOW:
                return "window";
            case QUEUE:
                return "queue";
            case OPS:
                return "ops";
            case RATE:
                return "rate";
            default:
                return "loop";
        }
    }

    /** Rules of fusion in their order. There is room for one more than can stand, which ruleGain needs. */
    private static final class Rules {
        final int[] firsts = new int[MOST_RULES + 1];
        final int[] seconds = new int[MOST_RULES + 1];
        int size;

        boolean has(int first, int second) {
            for (int rule = 0; rule < size; rule++) {
                if (firsts[rule] == first && seconds[rule] == second) {
                    return true;
                }
            }
            return false;
        }

        void append(int first, int second) {
            if (size >= 0 && size < firsts.length) {
                firsts[size] = first;
                seconds[size] = second;
                size++;
            }
        }

        void takeOut(int rule) {
            if (rule < 0 || rule >= size) {
                return;
            }
            for (int later = rule + 1; later < size; later++) {
                firsts[later - 1] = firsts[later];
                seconds[later - 1] = seconds[later];
            }
            size--;
        }

        void copyFrom(Rules other) {
            System.arraycopy(other.firsts, 0, firsts, 0, firsts.length);
            System.arraycopy(other.seconds, 0, seconds, 0, seconds.length);
            size = other.size;
        }
    }

    /** What a text sets up. It stays as it is until the next text, so that no copy of a front end needs its own. */
    private static final class Program {
        final int[] settings = new int[SETTINGS];
        final Rules rules = new Rules();
        final int[] kinds = new int[MOST_INSTRUCTIONS];
        final boolean[] longs = new boolean[MOST_INSTRUCTIONS];
        final int[] steps = new int[MOST_INSTRUCTIONS];
        final int[] taken = new int[MOST_INSTRUCTIONS];
        final int[] starts = new int[MOST_INSTRUCTIONS + 1];
        final int[] ops = new int[MOST_INSTRUCTIONS];
        final int[] targets = new int[MOST_INSTRUCTIONS];
        final int[] loopOps = new int[MOST_INSTRUCTIONS];
        int size;

        Program() {
            clear();
        }

        void clear() {
            System.arraycopy(USUAL, 0, settings, 0, SETTINGS);
            rules.size = 0;
            size = 0;
            starts[0] = 0;
        }

        /** The step leads from a jump or branch to its target, so that it is the same one in each copy. */
        void append(int kind, boolean isLong, int step, int times) {
            if (size >= 0 && size < MOST_INSTRUCTIONS) {
                kinds[size] = kind;
                longs[size] = isLong;
                steps[size] = step;
                taken[size] = times;
                size++;
            }
        }

        void repeatFrom(int start, int copies) {
            int end = size;
            for (int copy = 0; copy < copies; copy++) {
                for (int number = Math.max(start, 0); number < end; number++) {
                    append(kinds[number], longs[number], steps[number], taken[number]);
                }
            }
        }

        /** Works out what depends on the whole text. */
        void link() {
            for (int number = 0; number < size; number++) {
                int kind = Math.min(Math.max(kinds[number], 0), KINDS - 1);
                starts[number + 1] = starts[number] + LENGTHS[kind] + (longs[number] ? 1 : 0);
                ops[number] = KIND_OPS[kind];
                targets[number] = isJumpOrBranch(number) ? Math.min(number + steps[number], size) : NONE;
            }
            for (int number = 0; number < size; number++) {
                loopOps[number] = opsFromTarget(number);
            }
        }

        /** The ops of the loop that a jump or branch could close; NONE if it can close none. */
        private int opsFromTarget(int number) {
            int target = targets[number];
            if (target < 0 || target > number) {
                return NONE;
            }
            int sum = 0;
            for (int other = target; other < number; other++) {
                if (isJumpOrBranch(other)) {
                    return NONE;
                }
                sum += ops[other];
            }
            return sum + ops[number];
        }

        boolean isJumpOrBranch(int number) {
            return number >= 0 && number < size && kinds[number] >= JUMP;
        }

        /** The address of an instruction, or of the end. */
        int startOf(int number) {
            return number >= 0 && number <= size ? starts[number] : 0;
        }

        int lengthOf(int number) {
            return startOf(number + 1) - startOf(number);
        }

        int bytes() {
            return startOf(size);
        }

        boolean crossesWindows(int number) {
            return windowOf(startOf(number)) != windowOf(startOf(number + 1) - 1);
        }

        /** The number of the window that holds an address. */
        int windowOf(int address) {
            int window = settings[WINDOW];
            return window > 0 ? address / window : 0;
        }
    }

    /** Reads a setup text into a program; the first error from the left ends the reading. */
    private static final class Parser {
        // A sign is its own token; the numbers of the other tokens are no signs of the text.
        private static final int TEXT_END = 0;
        private static final int WORD = 1;
        private static final int NUMBER = 2;
        private static final int NO_TOKEN = 3;

        byte[] text;
        int length;
        Program program;
        int token;
        int tokenStart;
        int tokenEnd;
        int value;
        final boolean[] stands = new boolean[SETTINGS];
        final int[] bodies = new int[MOST_NESTED];
        final int[] copies = new int[MOST_NESTED];
        int depth;
        int code;
        int offset;

        Parser() {
            text = new byte[0];
            program = new Program();
            offset = NONE;
        }

        /** Tells whether the text has no error; the program is of use only then. */
        boolean readText(byte[] newText, int newLength, Program newProgram) {
            begin(newText, newLength, newProgram);
            // Each statement takes a byte at least.
            for (int statement = 0; statement <= length; statement++) {
                readToken();
                if (token == TEXT_END && depth == 0) {
                    program.link();
                    return true;
                }
                if (!readStatement()) {
                    return false;
                }
            }
            return fail(CANNOT_STAND);
        }

        private void begin(byte[] newText, int newLength, Program newProgram) {
            text = newText;
            length = Math.min(newLength, newText.length);
            program = newProgram;
            program.clear();
            tokenEnd = 0;
            depth = 0;
            for (int setting = 0; setting < SETTINGS; setting++) {
                stands[setting] = false;
            }
            code = 0;
            offset = NONE;
        }

        private boolean fail(int newCode) {
            code = newCode;
            offset = tokenStart;
            return false;
        }

        private boolean readStatement() {
            if (token == ')' && depth > 0) {
                return closeRepeat() && readSign(';');
            }
            if (tokenIs("repeat")) {
                return openRepeat();
            }
            if (tokenIs("fuse")) {
                return readRule() && readSign(';');
            }
            int setting = settingOfToken();
            if (setting != NONE) {
                return readSetting(setting) && readSign(';');
            }
            return readInstruction() && readSign(';');
        }

        private boolean openRepeat() {
            if (depth >= MOST_NESTED) {
                return fail(TOO_MANY);
            }
            int many = readNumber(1, MOST_REPEATS);
            if (many == NONE || !readSign('(')) {
                return false;
            }
            bodies[depth] = program.size;
            copies[depth] = many - 1;
            depth++;
            return true;
        }

        private boolean closeRepeat() {
            int inner = Math.min(depth, MOST_NESTED) - 1;
            if (inner < 0) {
                return fail(CANNOT_STAND);
            }
            int body = program.size - bodies[inner];
            if (program.size + body * copies[inner] > MOST_INSTRUCTIONS) {
                return fail(TOO_MANY);
            }
            program.repeatFrom(bodies[inner], copies[inner]);
            depth--;
            return true;
        }

        private boolean readSetting(int setting) {
            if (depth > 0 || setting < 0 || setting >= SETTINGS) {
                return fail(CANNOT_STAND);
            }
            if (stands[setting]) {
                return fail(STANDS_ALREADY);
            }
            stands[setting] = true;
            readToken();
            if (token != NUMBER) {
                return fail(CANNOT_STAND);
            }
            if (!isAllowed(setting, value)) {
                return fail(OUT_OF_RANGE);
            }
            program.settings[setting] = value;
            return true;
        }

        private boolean readRule() {
            if (depth > 0) {
                return fail(CANNOT_STAND);
            }
            if (program.rules.size >= MOST_RULES) {
                return fail(TOO_MANY);
            }
            readToken();
            int first = kindOfToken();
            if (first == NONE) {
                return fail(CANNOT_STAND);
            }
            if (first >= JUMP) {
                return fail(STANDS_ALREADY);
            }
            readToken();
            int second = kindOfToken();
            if (second == NONE) {
                return fail(CANNOT_STAND);
            }
            if (program.rules.has(first, second)) {
                return fail(STANDS_ALREADY);
            }
            program.rules.append(first, second);
            return true;
        }

        private boolean readInstruction() {
            boolean isLong = tokenIs("long");
            if (!isLong && kindOfToken() == NONE) {
                return fail(CANNOT_STAND);
            }
            if (program.size >= MOST_INSTRUCTIONS) {
                return fail(TOO_MANY);
            }
            if (isLong) {
                readToken();
            }
            int kind = kindOfToken();
            if (kind == NONE) {
                return fail(CANNOT_STAND);
            }
            int step = kind >= JUMP ? readTarget() : NONE;
            if (step == 0) {
                return false;
            }
            int times = kind == BRANCH ? readTimes() : 0;
            if (times == NONE) {
                return false;
            }
            program.append(kind, isLong, step, times);
            return true;
        }

        /** The step to the target; 0, which is no such step, at an error. */
        private int readTarget() {
            readToken();
            if (tokenIs("back")) {
                int back = readNumber(1, program.size);
                return back == NONE ? 0 : -back;
            }
            if (tokenIs("ahead")) {
                int skipped = readNumber(0, MOST_AHEAD);
                return skipped == NONE ? 0 : skipped + 1;
            }
            fail(CANNOT_STAND);
            return 0;
        }

        private int readTimes() {
            readToken();
            if (!tokenIs("times")) {
                fail(CANNOT_STAND);
                return NONE;
            }
            return readNumber(1, MOST_TIMES);
        }

        /** The next token's number; NONE at an error. */
        private int readNumber(int least, int greatest) {
            readToken();
            if (token != NUMBER) {
                fail(CANNOT_STAND);
                return NONE;
            }
            if (value < least || value > greatest) {
                fail(OUT_OF_RANGE);
                return NONE;
            }
            return value;
        }

        private boolean readSign(int sign) {
            readToken();
            return token == sign || fail(CANNOT_STAND);
        }

        private boolean tokenIs(String word) {
            if (token != WORD || tokenEnd - tokenStart != word.length()) {
                return false;
            }
            for (int index = 0; index < word.length(); index++) {
                if (text[tokenStart + index] != word.charAt(index)) {
                    return false;
                }
            }
            return true;
        }

        private int kindOfToken() {
            for (int kind = 0; kind < KINDS; kind++) {
                if (tokenIs(wordOfKind(kind))) {
                    return kind;
                }
            }
            return NONE;
        }

        private int settingOfToken() {
            for (int setting = 0; setting < SETTINGS; setting++) {
                if (tokenIs(wordOfSetting(setting))) {
                    return setting;
                }
            }
            return NONE;
        }

        private void readToken() {
            int end = tokenEnd;
            while (end < length && (text[end] == ' ' || text[end] == '\n')) {
                end++;
            }
            tokenStart = end;
            token = TEXT_END;
            if (end < length) {
                int sign = text[end];
                if (sign >= 'a' && sign <= 'z') {
                    end = endOfWord(end);
                } else if (sign >= '0' && sign <= '9') {
                    end = endOfNumber(end);
                } else {
                    token = sign == ';' || sign == '(' || sign == ')' ? sign : NO_TOKEN;
                    end++;
                }
            }
            tokenEnd = end;
        }

        private int endOfWord(int start) {
            int end = start;
            while (end < length && text[end] >= 'a' && text[end] <= 'z') {
                end++;
            }
            token = WORD;
            return end;
        }

        private int endOfNumber(int start) {
            int end = start;
            value = 0;
            while (end < length && text[end] >= '0' && text[end] <= '9') {
                // A number of three digits or more is an error, whatever its value is.
                if (end < start + 2) {
                    value = 10 * value + text[end] - '0';
                }
                end++;
            }
            token = end <= start + 2 ? NUMBER : NO_TOKEN;
            return end;
        }
    }

    /** The marked instructions, each with its prediction at the time when it was marked. */
    private static final class Queue {
        final int[] numbers = new int[MOST_QUEUE];
        final boolean[] predictions = new boolean[MOST_QUEUE];
        int size;

        void append(int number, boolean prediction) {
            if (size >= 0 && size < MOST_QUEUE) {
                numbers[size] = number;
                predictions[size] = prediction;
                size++;
            }
        }

        void dropFirst() {
            for (int index = 1; index < size; index++) {
                numbers[index - 1] = numbers[index];
                predictions[index - 1] = predictions[index];
            }
            size = Math.max(size - 1, 0);
        }

        void copyFrom(Queue other) {
            System.arraycopy(other.numbers, 0, numbers, 0, MOST_QUEUE);
            System.arraycopy(other.predictions, 0, predictions, 0, MOST_QUEUE);
            size = other.size;
        }
    }

    /** The loop that is replayed, if one is. */
    private static final class Replay {
        boolean goesOn;
        int first;
        int last;
        int next;
        int ops;

        void begin(int newFirst, int newLast, int newOps) {
            goesOn = true;
            first = newFirst;
            last = newLast;
            next = newFirst;
            ops = newOps;
        }

        void copyFrom(Replay other) {
            goesOn = other.goesOn;
            first = other.first;
            last = other.last;
            next = other.next;
            ops = other.ops;
        }
    }

    /** Knows of each branch how often it was taken in a row. */
    private static final class Turns {
        final int[] taken = new int[MOST_INSTRUCTIONS];

        /** Lets a jump or branch go where it goes this time, and tells whether it is taken. */
        boolean goesToTarget(Program program, int number) {
            if (number < 0 || number >= program.size || program.kinds[number] < JUMP) {
                return false;
            }
            if (program.kinds[number] == JUMP) {
                return true;
            }
            if (taken[number] < program.taken[number]) {
                taken[number]++;
                return true;
            }
            taken[number] = 0;
            return false;
        }

        void copyFrom(Turns other) {
            System.arraycopy(other.taken, 0, taken, 0, MOST_INSTRUCTIONS);
        }
    }

    /** Decodes one instruction after the other. */
    private static final class PlainDecoder {
        final Turns turns = new Turns();
        int place;

        void begin() {
            Arrays.fill(turns.taken, 0);
            place = 0;
        }

        /** The number of the next instruction; NONE at the end. */
        int next(Program program) {
            int number = place;
            if (number < 0 || number >= program.size) {
                return NONE;
            }
            place = turns.goesToTarget(program, number) ? program.targets[number] : number + 1;
            return number;
        }

        void copyFrom(PlainDecoder other) {
            turns.copyFrom(other.turns);
            place = other.place;
        }
    }

    /** What happened. */
    private static final class Tally {
        final int[] counters = new int[COUNTERS];
        final int[] unused = new int[CAUSES + 1];
        final int[] perInstruction = new int[MOST_INSTRUCTIONS];
        final int[] recent = new int[RECENT];
        // How many of the latest decoded instructions are, without a gap, those of the plain decoder.
        int likePlain;

        void clear() {
            Arrays.fill(counters, 0);
            Arrays.fill(unused, 0);
            Arrays.fill(perInstruction, 0);
            likePlain = 0;
        }

        void addDecoded(int number, int plainNumber) {
            if (number < 0 || number >= MOST_INSTRUCTIONS) {
                return;
            }
            perInstruction[number]++;
            recent[Math.max(counters[DECODED], 0) % RECENT] = number;
            counters[DECODED]++;
            likePlain = number == plainNumber ? likePlain + 1 : 0;
        }

        void addUnused(int cause, int lanes) {
            if (cause >= 1 && cause <= CAUSES) {
                unused[cause] += lanes;
            }
        }

        /** The cause for which most lanes stayed unused since they were so many as before tells; NONE if none did. */
        int mostUnusedSince(int[] before) {
            int main = NONE;
            int most = 0;
            for (int cause = 1; cause <= CAUSES && cause < before.length; cause++) {
                int many = unused[cause] - before[cause];
                if (many > most) {
                    most = many;
                    main = cause;
                }
            }
            return main;
        }

        void copyFrom(Tally other) {
            System.arraycopy(other.counters, 0, counters, 0, COUNTERS);
            System.arraycopy(other.unused, 0, unused, 0, CAUSES + 1);
            System.arraycopy(other.perInstruction, 0, perInstruction, 0, MOST_INSTRUCTIONS);
            System.arraycopy(other.recent, 0, recent, 0, RECENT);
            likePlain = other.likePlain;
        }
    }

    /** All that cycles and changes alter. */
    private static final class Front {
        Program program;
        final int[] settings = new int[SETTINGS];
        final Rules rules = new Rules();
        final Queue queue = new Queue();
        final Replay replay = new Replay();
        final Turns turns = new Turns();
        // A plain decoder that is as far as this front end: it makes agrees cheap.
        final PlainDecoder plainDecoder = new PlainDecoder();
        final Tally tally = new Tally();
        final boolean[] wasTaken = new boolean[MOST_INSTRUCTIONS];
        int lastTaken;
        int place;
        boolean placeWasSet;
        int reach;
        boolean cut;
        int waiting;
        int pause;
        int lengthPause;
        int stallLeft;

        Front(Program newProgram) {
            begin(newProgram);
        }

        void begin(Program newProgram) {
            program = newProgram;
            System.arraycopy(newProgram.settings, 0, settings, 0, SETTINGS);
            rules.copyFrom(newProgram.rules);
            queue.size = 0;
            replay.goesOn = false;
            Arrays.fill(turns.taken, 0);
            plainDecoder.begin();
            tally.clear();
            for (int number = 0; number < MOST_INSTRUCTIONS; number++) {
                wasTaken[number] = false;
            }
            lastTaken = NONE;
            place = 0;
            placeWasSet = false;
            reach = 0;
            cut = false;
            waiting = 0;
            pause = 0;
            lengthPause = 0;
            stallLeft = 0;
        }

        void copyFrom(Front other) {
            program = other.program;
            System.arraycopy(other.settings, 0, settings, 0, SETTINGS);
            rules.copyFrom(other.rules);
            queue.copyFrom(other.queue);
            replay.copyFrom(other.replay);
            turns.copyFrom(other.turns);
            plainDecoder.copyFrom(other.plainDecoder);
            tally.copyFrom(other.tally);
            System.arraycopy(other.wasTaken, 0, wasTaken, 0, MOST_INSTRUCTIONS);
            lastTaken = other.lastTaken;
            place = other.place;
            placeWasSet = other.placeWasSet;
            reach = other.reach;
            cut = other.cut;
            waiting = other.waiting;
            pause = other.pause;
            lengthPause = other.lengthPause;
            stallLeft = other.stallLeft;
        }

        /** Lets cycles pass, and tells how many instructions are decoded in them. */
        int decodeFor(int cycles) {
            int before = tally.counters[DECODED];
            for (int cycle = 0; cycle < cycles; cycle++) {
                passCycle();
            }
            return tally.counters[DECODED] - before;
        }

        void passCycle() {
            tally.counters[CYCLES]++;
            takeOps();
            decodeLanes();
            fetch();
        }

        private void takeOps() {
            if (stallLeft > 0) {
                stallLeft--;
            } else {
                waiting -= Math.min(settings[RATE], waiting);
            }
        }

        private void decodeLanes() {
            int lanes = settings[LANES];
            int used = 0;
            int cause = GOES_ON;
            if (pause > 0) {
                pause--;
                cause = PAUSED;
            }
            for (int lane = 0; lane < lanes && cause == GOES_ON; lane++) {
                int first = nextNumber();
                int last = first != NONE && isFused(first) ? first + 1 : first;
                int ops = opsOfUnit(first, last);
                cause = first == NONE ? causeOfNothing() : causeOfStop(lane, ops);
                if (cause == GOES_ON) {
                    boolean prediction = decodeUnit(first, last, ops);
                    cause = follow(last, prediction);
                    used++;
                }
            }
            tally.addUnused(cause, lanes - used);
        }

        /** The first instruction of the unit that is next; NONE if there is none. */
        private int nextNumber() {
            if (replay.goesOn) {
                return replay.next;
            }
            return queue.size > 0 ? queue.numbers[0] : NONE;
        }

        private boolean isFused(int first) {
            boolean nextIsThere = replay.goesOn
                    ? first < replay.last
                    : queue.size > 1 && queue.numbers[1] == first + 1;
            return nextIsThere && fusesWithNext(first);
        }

        boolean fusesWithNext(int number) {
            int next = number + 1;
            if (number < 0 || next >= program.size || program.longs[number] || program.longs[next]) {
                return false;
            }
            return rules.has(program.kinds[number], program.kinds[next])
                    && program.windowOf(program.starts[number]) == program.windowOf(program.starts[next]);
        }

        private int opsOfUnit(int first, int last) {
            if (first < 0 || last < first || last >= program.size) {
                return 0;
            }
            return last > first ? program.ops[first] + program.ops[last] - 1 : program.ops[first];
        }

        private int causeOfNothing() {
            if (place >= program.size) {
                return AT_END;
            }
            if (lengthPause > 0) {
                return LONG;
            }
            return cut ? CUT : NOT_FETCHED;
        }

        private int causeOfStop(int lane, int ops) {
            if (lane > 0 && !replay.goesOn && ops > 1) {
                return LANE_TOO_SMALL;
            }
            return waiting + ops > settings[OPS] ? OPS_FULL : GOES_ON;
        }

        /** Decodes a unit, and tells the prediction that its last instruction had in the queue. */
        private boolean decodeUnit(int first, int last, int ops) {
            boolean prediction = false;
            for (int number = first; number <= last; number++) {
                if (replay.goesOn) {
                    replay.next = number + 1;
                    tally.counters[FROM_LOOPS]++;
                } else {
                    prediction = queue.predictions[0];
                    queue.dropFirst();
                }
                tally.addDecoded(number, plainDecoder.next(program));
            }
            waiting += ops;
            tally.counters[DECODED_OPS] += ops;
            tally.counters[FUSED_UNITS] += last > first ? 1 : 0;
            return prediction;
        }

        /** Goes where a decoded instruction goes, and tells why decoding stops at the next lane, or that it goes on. */
        private int follow(int number, boolean prediction) {
            if (number < 0 || number >= program.size || program.kinds[number] < JUMP) {
                return GOES_ON;
            }
            boolean taken = turns.goesToTarget(program, number);
            boolean takenAgain = taken && lastTaken == number;
            wasTaken[number] = taken;
            lastTaken = taken ? number : lastTaken;
            if (replay.goesOn) {
                return followInLoop(number, taken);
            }
            if (taken != prediction) {
                tally.counters[WRONG]++;
                goTo(taken ? program.targets[number] : number + 1);
                return PAUSED;
            }
            if (takenAgain && closesLoop(number)) {
                tally.counters[LOOPS]++;
                emptyQueue();
                replay.begin(program.targets[number], number, program.loopOps[number]);
            }
            return taken ? TAKEN : GOES_ON;
        }

        private int followInLoop(int number, boolean taken) {
            if (taken) {
                replay.next = replay.first;
                return GOES_ON;
            }
            replay.goesOn = false;
            setPlace(number + 1);
            return TAKEN;
        }

        boolean closesLoop(int number) {
            if (number < 0 || number >= program.size) {
                return false;
            }
            return program.loopOps[number] != NONE && program.loopOps[number] <= settings[LOOP];
        }

        /** Begins anew at an instruction or the end, as behind a wrong prediction. */
        void goTo(int number) {
            emptyQueue();
            replay.goesOn = false;
            setPlace(number);
            pause = PAUSE;
        }

        private void emptyQueue() {
            queue.size = 0;
            cut = false;
            lengthPause = 0;
        }

        private void setPlace(int number) {
            place = number;
            placeWasSet = true;
        }

        private void fetch() {
            if (replay.goesOn || place >= program.size) {
                return;
            }
            if (lengthPause > 0) {
                lengthPause--;
                return;
            }
            readWindow();
            boolean marks = true;
            for (int marked = 0; marks && marked <= MOST_QUEUE; marked++) {
                marks = canMark() && mark();
            }
        }

        private void readWindow() {
            int address = program.startOf(place);
            if (cut) {
                reach += settings[WINDOW];
            } else if (placeWasSet || address >= reach) {
                reach = (program.windowOf(address) + 1) * settings[WINDOW];
            } else {
                return;
            }
            cut = false;
            placeWasSet = false;
            tally.counters[WINDOWS]++;
        }

        private boolean canMark() {
            if (place >= program.size || queue.size >= settings[QUEUE]) {
                return false;
            }
            if (program.startOf(place + 1) <= reach) {
                return true;
            }
            if (program.startOf(place) < reach) {
                cut = true;
                tally.counters[CUTS]++;
            }
            return false;
        }

        /** Marks the instruction of the place, and tells whether another one may follow in this cycle. */
        private boolean mark() {
            int number = place;
            if (number < 0 || number >= program.size) {
                return false;
            }
            boolean taken = predictsTaken(number);
            queue.append(number, taken);
            // A long one that is predicted taken goes to its target too, or what follows in the queue would be wrong.
            if (taken) {
                setPlace(program.targets[number]);
            } else {
                place = number + 1;
            }
            if (program.longs[number]) {
                lengthPause = LENGTH_PAUSE;
            }
            return !taken && !program.longs[number];
        }

        boolean predictsTaken(int number) {
            if (number < 0 || number >= program.size) {
                return false;
            }
            return program.kinds[number] == JUMP || wasTaken[number];
        }
    }

    /** The states before the latest changes, in rows that are made once and used in a circle. */
    private static final class History {
        final Front[] states = new Front[MOST_CHANGES];
        int oldest;
        int size;

        History(Program program) {
            for (int index = 0; index < MOST_CHANGES; index++) {
                states[index] = new Front(program);
            }
        }

        void forget() {
            size = 0;
        }

        void remember(Front front) {
            int index = (oldest + size) % MOST_CHANGES;
            if (index < 0 || index >= states.length) {
                return;
            }
            states[index].copyFrom(front);
            if (size < MOST_CHANGES) {
                size++;
            } else {
                oldest = (oldest + 1) % MOST_CHANGES;
            }
        }

        void takeBack(Front front) {
            int index = (oldest + size - 1) % MOST_CHANGES;
            if (size <= 0 || index < 0 || index >= states.length) {
                return;
            }
            front.copyFrom(states[index]);
            size--;
        }
    }

    /** The text that printInstruction wrote. */
    private static final class Output {
        final byte[] bytes = new byte[OUTPUT_ROOM];
        int length;

        void clear() {
            length = 0;
        }

        void addByte(int sign) {
            if (length >= 0 && length < bytes.length) {
                bytes[length] = (byte) sign;
                length++;
            }
        }

        void addText(String text) {
            for (int index = 0; index < text.length(); index++) {
                addByte(text.charAt(index));
            }
        }

        /** Addresses and targets have at most three digits. */
        void addNumber(int number) {
            if (number >= 100) {
                addByte('0' + number / 100 % 10);
            }
            if (number >= 10) {
                addByte('0' + number / 10 % 10);
            }
            addByte('0' + number % 10);
        }
    }
}
