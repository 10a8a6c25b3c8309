import java.util.ArrayList;
import java.util.Arrays;
import java.util.List;
import java.util.NoSuchElementException;

/**
 * What the document says, once more and without regard to cost: each answer is worked out anew from all that was
 * decoded, each state is a whole copy. ModelTest compares its answers with those of FusionFront.
 */
public final class Model {
    private static final String[] WORDS =
            {"nop", "add", "mov", "load", "store", "cmp", "test", "div", "jump", "branch"};
    private static final int[] LENGTHS = {1, 2, 3, 4, 4, 3, 2, 3, 2, 2};
    private static final int[] OPS = {1, 1, 1, 1, 2, 1, 1, 4, 1, 1};

    /** An instruction; its place behind "back" or "ahead" is relative, its target is set when all is repeated. */
    private static final class Line {
        int kind;
        boolean isLong;
        int relative;
        int times = -1;
        int address;
        int target = -1;

        int length() {
            return LENGTHS[kind] + (isLong ? 1 : 0);
        }

        int last() {
            return address + length() - 1;
        }

        boolean jumps() {
            return kind >= 8;
        }

        Line again() {
            Line other = new Line();
            other.kind = kind;
            other.isLong = isLong;
            other.relative = relative;
            other.times = times;
            return other;
        }
    }

    private record Token(String text, int start) {
    }

    private static final class Fault extends RuntimeException {
        private static final long serialVersionUID = 1;
        final int code;
        final int offset;

        Fault(int code, Token token) {
            this.code = code;
            this.offset = token.start();
        }
    }

    private static final class Text {
        static final List<String> SETTINGS = List.of("lanes", "window", "queue", "ops", "rate", "loop");
        final List<Token> tokens = new ArrayList<>();
        int at;
        final int[] settings = {-1, -1, -1, -1, -1, -1};
        final List<Integer> rules = new ArrayList<>();
        final List<Line> lines = new ArrayList<>();

        Text(byte[] bytes, int length) {
            int start = 0;
            while (start < length) {
                int end = start + 1;
                if (isLetter(bytes[start])) {
                    while (end < length && isLetter(bytes[end])) {
                        end++;
                    }
                } else if (isDigit(bytes[start])) {
                    while (end < length && isDigit(bytes[end])) {
                        end++;
                    }
                }
                if (bytes[start] != 32 && bytes[start] != 10) {
                    StringBuilder text = new StringBuilder();
                    for (int index = start; index < end; index++) {
                        text.append((char) (bytes[index] & 255));
                    }
                    tokens.add(new Token(text.toString(), start));
                }
                start = end;
            }
            tokens.add(new Token("", length));
        }

        static boolean isLetter(byte sign) {
            return 'a' <= sign && sign <= 'z';
        }

        static boolean isDigit(byte sign) {
            return '0' <= sign && sign <= '9';
        }

        Token peek() {
            return tokens.get(at);
        }

        Token take() {
            return tokens.get(at++);
        }

        void take(String text) {
            if (!peek().text().equals(text)) {
                throw new Fault(1, peek());
            }
            at++;
        }

        int number(int... allowed) {
            Token token = take();
            if (!token.text().matches("[0-9]{1,2}")) {
                throw new Fault(1, token);
            }
            int value = Integer.parseInt(token.text());
            for (int one : allowed) {
                if (one == value) {
                    return value;
                }
            }
            throw new Fault(2, token);
        }

        int numberIn(int least, int greatest) {
            int[] allowed = new int[Math.max(greatest - least + 1, 0)];
            for (int index = 0; index < allowed.length; index++) {
                allowed[index] = least + index;
            }
            return number(allowed);
        }

        int kind(Token token) {
            int kind = Arrays.asList(WORDS).indexOf(token.text());
            if (kind < 0) {
                throw new Fault(1, token);
            }
            return kind;
        }

        void whole() {
            while (!peek().text().isEmpty()) {
                Token token = peek();
                int setting = SETTINGS.indexOf(token.text());
                if (setting >= 0) {
                    at++;
                    if (settings[setting] >= 0) {
                        throw new Fault(3, token);
                    }
                    settings[setting] = settingValue(setting);
                } else if (token.text().equals("fuse")) {
                    at++;
                    fuse(token);
                } else {
                    line(0);
                }
                take(";");
            }
        }

        int settingValue(int setting) {
            switch (setting) {
                case 0:
                    return numberIn(1, 6);
                case 1:
                    return number(8, 16, 32);
                case 2:
                    return numberIn(2, 20);
                case 3:
                    return numberIn(4, 40);
                case 4:
                    return numberIn(1, 8);
                default:
                    return numberIn(0, 30);
            }
        }

        void fuse(Token word) {
            if (rules.size() == 6) {
                throw new Fault(4, word);
            }
            Token one = take();
            int first = kind(one);
            if (first == 8 || first == 9) {
                throw new Fault(3, one);
            }
            Token two = take();
            int rule = 10 * first + kind(two);
            if (rules.contains(rule)) {
                throw new Fault(3, two);
            }
            rules.add(rule);
        }

        /** An instruction or a repeat, without its semicolon. */
        void line(int depth) {
            Token word = take();
            if (word.text().equals("repeat")) {
                repeat(word, depth);
                return;
            }
            Line line = new Line();
            line.isLong = word.text().equals("long");
            if (!line.isLong) {
                line.kind = kind(word);
            }
            if (lines.size() >= 60) {
                throw new Fault(4, word);
            }
            if (line.isLong) {
                line.kind = kind(take());
            }
            if (line.jumps()) {
                Token side = take();
                if (side.text().equals("back")) {
                    line.relative = -numberIn(1, lines.size());
                } else if (side.text().equals("ahead")) {
                    line.relative = 1 + numberIn(0, 9);
                } else {
                    throw new Fault(1, side);
                }
            }
            if (line.kind == 9) {
                take("times");
                line.times = numberIn(1, 99);
            }
            lines.add(line);
        }

        void repeat(Token word, int depth) {
            if (depth == 2) {
                throw new Fault(4, word);
            }
            int times = numberIn(1, 9);
            take("(");
            int start = lines.size();
            while (!peek().text().equals(")")) {
                line(depth + 1);
                take(";");
            }
            Token closing = take();
            int body = lines.size() - start;
            if (start + body * times > 60) {
                throw new Fault(4, closing);
            }
            for (int index = 0; index < body * (times - 1); index++) {
                lines.add(lines.get(start + index).again());
            }
        }
    }

    private static final class State {
        final List<Line> lines;
        int lanes;
        int window;
        int queueMost;
        int opsMost;
        int rate;
        int loopMost;
        List<Integer> rules = new ArrayList<>();
        int place;
        boolean placeSet;
        int reach;
        boolean cut;
        int waiting;
        int pause;
        int lengthPause;
        int stall;
        List<int[]> queue = new ArrayList<>();
        int[] loop;
        int lastTaken = -1;
        List<Integer> decoded = new ArrayList<>();
        /** What each decoded instruction did: 1 for going to its target. */
        List<Integer> went = new ArrayList<>();
        int[] bubbles = new int[9];
        int cycles;
        int decodedOps;
        int units;
        int windows;
        int cuts;
        int wrong;
        int loops;
        int fromLoops;

        State(List<Line> lines) {
            this.lines = lines;
        }

        State copy() {
            State to = new State(lines);
            to.lanes = lanes;
            to.window = window;
            to.queueMost = queueMost;
            to.opsMost = opsMost;
            to.rate = rate;
            to.loopMost = loopMost;
            to.rules = new ArrayList<>(rules);
            to.place = place;
            to.placeSet = placeSet;
            to.reach = reach;
            to.cut = cut;
            to.waiting = waiting;
            to.pause = pause;
            to.lengthPause = lengthPause;
            to.stall = stall;
            to.queue = new ArrayList<>(queue);
            to.loop = loop == null ? null : loop.clone();
            to.lastTaken = lastTaken;
            to.decoded = new ArrayList<>(decoded);
            to.went = new ArrayList<>(went);
            to.bubbles = bubbles.clone();
            to.cycles = cycles;
            to.decodedOps = decodedOps;
            to.units = units;
            to.windows = windows;
            to.cuts = cuts;
            to.wrong = wrong;
            to.loops = loops;
            to.fromLoops = fromLoops;
            return to;
        }

        int end() {
            return lines.size();
        }

        int address(int number) {
            return number < end() ? lines.get(number).address : bytes();
        }

        int bytes() {
            return end() == 0 ? 0 : lines.get(end() - 1).last() + 1;
        }

        /** What a jump or branch does when it is decoded behind all that was decoded. */
        static boolean goes(List<Line> lines, List<Integer> decoded, List<Integer> went, int number) {
            Line line = lines.get(number);
            if (line.kind == 8) {
                return true;
            }
            if (line.kind != 9) {
                return false;
            }
            int inRow = 0;
            for (int index = decoded.size() - 1; index >= 0; index--) {
                if (decoded.get(index) == number) {
                    if (went.get(index) == 0) {
                        break;
                    }
                    inRow++;
                }
            }
            return inRow < line.times;
        }

        boolean predicted(int number) {
            Line line = lines.get(number);
            if (line.kind == 8) {
                return true;
            }
            int latest = decoded.lastIndexOf(number);
            return line.kind == 9 && latest >= 0 && went.get(latest) == 1;
        }

        boolean fuses(int number) {
            if (number + 1 >= end()) {
                return false;
            }
            Line one = lines.get(number);
            Line two = lines.get(number + 1);
            return rules.contains(10 * one.kind + two.kind) && !one.isLong && !two.isLong
                    && one.address / window == two.address / window;
        }

        int loopOps(int number) {
            int sum = 0;
            for (int index = lines.get(number).target; index <= number; index++) {
                sum += OPS[lines.get(index).kind];
            }
            return sum;
        }

        boolean loopable(int number) {
            Line line = lines.get(number);
            if (!line.jumps() || line.target > number || loopOps(number) > loopMost) {
                return false;
            }
            for (int index = line.target; index < number; index++) {
                if (lines.get(index).jumps()) {
                    return false;
                }
            }
            return true;
        }

        void set(int number) {
            place = number;
            placeSet = true;
        }

        void startAt(int number) {
            queue.clear();
            loop = null;
            set(number);
            pause = 4;
            cut = false;
            lengthPause = 0;
        }

        void cycle() {
            cycles++;
            if (stall > 0) {
                stall--;
            } else {
                waiting = Math.max(0, waiting - rate);
            }
            decode();
            if (loop == null && place != end()) {
                fetch();
            }
        }

        void decode() {
            int stop = 0;
            if (pause > 0) {
                pause--;
                stop = 4;
            }
            for (int lane = 0; lane < lanes; lane++) {
                if (stop == 0) {
                    stop = blocked(lane);
                    if (stop == 0) {
                        stop = lane(unit());
                        continue;
                    }
                }
                bubbles[stop]++;
            }
        }

        int[] unit() {
            int first = loop != null ? loop[2] : queue.get(0)[0];
            boolean pair;
            if (loop != null) {
                pair = first + 1 <= loop[1];
            } else {
                pair = queue.size() >= 2 && queue.get(1)[0] == first + 1;
            }
            return pair && fuses(first) ? new int[] {first, first + 1} : new int[] {first};
        }

        int opsOf(int[] unit) {
            int ops = 1 - unit.length;
            for (int number : unit) {
                ops += OPS[lines.get(number).kind];
            }
            return ops;
        }

        int blocked(int lane) {
            if (loop == null && queue.isEmpty()) {
                return place == end() ? 8 : lengthPause > 0 ? 3 : cut ? 2 : 1;
            }
            int ops = opsOf(unit());
            if (lane != 0 && loop == null && ops > 1) {
                return 5;
            }
            return waiting + ops > opsMost ? 6 : 0;
        }

        /** Decodes a unit in a lane; the answer is the cause for the lanes behind it, 0 if they may go on. */
        int lane(int[] unit) {
            boolean inLoop = loop != null;
            int prediction = 0;
            int taken = 0;
            int before = lastTaken;
            waiting += opsOf(unit);
            decodedOps += opsOf(unit);
            units += unit.length - 1;
            int last = unit[unit.length - 1];
            for (int number : unit) {
                taken = goes(lines, decoded, went, number) ? 1 : 0;
                decoded.add(number);
                went.add(taken);
                if (inLoop) {
                    fromLoops++;
                    loop[2] = number + 1;
                } else {
                    prediction = queue.remove(0)[1];
                }
            }
            Line line = lines.get(last);
            if (!line.jumps()) {
                return 0;
            }
            int next = taken == 1 ? line.target : last + 1;
            if (taken == 1) {
                lastTaken = last;
            }
            if (inLoop) {
                if (taken == 1) {
                    loop[2] = loop[0];
                    return 0;
                }
                loop = null;
                set(next);
                return 7;
            }
            if (taken != prediction) {
                wrong++;
                startAt(next);
                return 4;
            }
            if (taken == 0) {
                return 0;
            }
            if (before == last && loopable(last)) {
                loops++;
                loop = new int[] {line.target, last, line.target, loopOps(last)};
                queue.clear();
                cut = false;
                lengthPause = 0;
            }
            return 7;
        }

        void fetch() {
            if (lengthPause > 0) {
                lengthPause--;
                return;
            }
            if (cut) {
                reach += window;
                read();
            } else if (placeSet || address(place) >= reach) {
                reach = address(place) / window * window + window;
                read();
            }
            while (place != end() && queue.size() < queueMost) {
                int number = place;
                Line line = lines.get(number);
                if (line.last() >= reach) {
                    if (line.address < reach) {
                        cut = true;
                        cuts++;
                    }
                    return;
                }
                boolean taken = predicted(number);
                queue.add(new int[] {number, taken ? 1 : 0});
                place = number + 1;
                if (taken) {
                    set(line.target);
                }
                if (line.isLong) {
                    lengthPause = 3;
                }
                if (taken || line.isLong) {
                    return;
                }
            }
        }

        void read() {
            windows++;
            cut = false;
            placeSet = false;
        }
    }

    private final byte[] input = new byte[600];
    private int length;
    private int code;
    private int offset = -1;
    private String output = "";
    private State now = made(new Text(new byte[0], 0));
    private State saved;
    private final List<State> before = new ArrayList<>();

    private static State made(Text text) {
        for (int number = 0; number < text.lines.size(); number++) {
            Line line = text.lines.get(number);
            line.address = number == 0 ? 0 : text.lines.get(number - 1).last() + 1;
            if (line.jumps()) {
                line.target = Math.min(number + line.relative, text.lines.size());
            }
        }
        int[] usual = {4, 16, 8, 16, 4, 0};
        for (int setting = 0; setting < 6; setting++) {
            usual[setting] = text.settings[setting] >= 0 ? text.settings[setting] : usual[setting];
        }
        State state = new State(text.lines);
        state.lanes = usual[0];
        state.window = usual[1];
        state.queueMost = usual[2];
        state.opsMost = usual[3];
        state.rate = usual[4];
        state.loopMost = usual[5];
        state.rules.addAll(text.rules);
        return state;
    }

    private void index(boolean fine) {
        if (!fine) {
            throw new IndexOutOfBoundsException();
        }
    }

    private void argument(boolean fine) {
        if (!fine) {
            throw new IllegalArgumentException();
        }
    }

    private boolean isNumber(int number) {
        return number >= 0 && number < now.end();
    }

    private static boolean isCycles(int cycles) {
        return cycles >= 1 && cycles <= 500;
    }

    private void change() {
        before.add(now.copy());
        if (before.size() > 6) {
            before.remove(0);
        }
    }

    public int feed(int a, int b, int c, int d, int e) {
        if (length > 580) {
            return -1;
        }
        for (int word : new int[] {a, b, c, d, e}) {
            input[length++] = (byte) (word >>> 24);
            input[length++] = (byte) (word >>> 16);
            input[length++] = (byte) (word >>> 8);
            input[length++] = (byte) word;
        }
        return length;
    }

    public boolean truncate(int newLength) {
        boolean fine = newLength >= 0 && newLength <= length;
        length = fine ? newLength : length;
        return fine;
    }

    public int parse() {
        Text text = new Text(input, length);
        length = 0;
        code = 0;
        offset = -1;
        try {
            text.whole();
        } catch (Fault fault) {
            code = fault.code;
            offset = fault.offset;
            return -1;
        }
        now = made(text);
        saved = null;
        before.clear();
        return now.end();
    }

    public int errorCode() {
        return code;
    }

    public int errorOffset() {
        return offset;
    }

    public int count(int what) {
        int[] all = {now.end(), now.bytes(), now.lanes, now.window, now.queueMost, now.opsMost, now.rate,
            now.loopMost, now.rules.size(), now.cycles, now.decoded.size(), now.decodedOps, now.units, now.windows,
            now.cuts, now.wrong, now.loops, now.fromLoops, now.waiting, now.queue.size(), now.place, now.pause,
            now.lengthPause, now.stall, before.size()};
        return what >= 0 && what < all.length ? all[what] : -1;
    }

    public int instruction(int number, int what) {
        index(isNumber(number) && what >= 0 && what <= 7);
        Line line = now.lines.get(number);
        int[] all = {line.kind, line.address, line.length(), OPS[line.kind], line.target, line.times,
            line.isLong ? 1 : 0, !line.jumps() ? -1 : now.predicted(number) ? 1 : 0};
        return all[what];
    }

    public int at(int address) {
        for (int number = 0; number < now.end(); number++) {
            if (address >= now.address(number) && address <= now.lines.get(number).last()) {
                return number;
            }
        }
        return -1;
    }

    public boolean crosses(int number) {
        index(isNumber(number));
        Line line = now.lines.get(number);
        return line.address / now.window < line.last() / now.window;
    }

    public boolean fuses(int number) {
        index(isNumber(number));
        return now.fuses(number);
    }

    public boolean isLoopable(int number) {
        index(isNumber(number));
        return now.loopable(number);
    }

    public int fusable() {
        int many = 0;
        for (int number = 0; number < now.end(); number++) {
            many += fuses(number) ? 1 : 0;
        }
        return many;
    }

    public int crossing() {
        int many = 0;
        for (int number = 0; number < now.end(); number++) {
            many += crosses(number) ? 1 : 0;
        }
        return many;
    }

    public int ofKind(int kind, boolean decoded) {
        argument(kind >= 0 && kind <= 9);
        int many = 0;
        if (decoded) {
            for (int number : now.decoded) {
                many += now.lines.get(number).kind == kind ? 1 : 0;
            }
            return many;
        }
        for (Line line : now.lines) {
            many += line.kind == kind ? 1 : 0;
        }
        return many;
    }

    public int rule(int rule, boolean second) {
        index(rule >= 0 && rule < now.rules.size());
        return second ? now.rules.get(rule) % 10 : now.rules.get(rule) / 10;
    }

    public int queueAt(int index) {
        if (index < 0 || index >= now.queue.size()) {
            throw new NoSuchElementException();
        }
        return now.queue.get(index)[0];
    }

    public int loop(int what) {
        argument(what >= 0 && what <= 3);
        return now.loop == null ? -1 : now.loop[what];
    }

    public boolean isCut() {
        return now.cut;
    }

    public int bubbles(int cause) {
        argument(cause >= 1 && cause <= 8);
        return now.bubbles[cause];
    }

    private static int main(int[] later, int[] earlier) {
        int main = -1;
        for (int cause = 8; cause >= 1; cause--) {
            int many = later[cause] - earlier[cause];
            if (many > 0 && (main < 0 || many >= later[main] - earlier[main])) {
                main = cause;
            }
        }
        return main;
    }

    public int mainCause() {
        return main(now.bubbles, new int[9]);
    }

    public int decoded(int back) {
        if (back < 0 || back > 99 || back >= now.decoded.size()) {
            throw new NoSuchElementException();
        }
        return now.decoded.get(now.decoded.size() - 1 - back);
    }

    private List<Integer> plainly(int many) {
        List<Integer> decoded = new ArrayList<>();
        int[] inRow = new int[now.end()];
        int number = 0;
        while (number < now.end() && decoded.size() < many) {
            decoded.add(number);
            Line line = now.lines.get(number);
            boolean goes = line.kind == 8 || line.kind == 9 && inRow[number] < line.times;
            inRow[number] = goes ? inRow[number] + 1 : 0;
            number = goes ? line.target : number + 1;
        }
        return decoded;
    }

    public int plain(int index) {
        argument(index >= 0 && index <= 9999);
        List<Integer> decoded = plainly(index + 1);
        return index < decoded.size() ? decoded.get(index) : -1;
    }

    public boolean agrees() {
        int many = now.decoded.size();
        List<Integer> plain = plainly(many);
        int from = Math.max(0, many - 100);
        return plain.size() == many && plain.subList(from, many).equals(now.decoded.subList(from, many));
    }

    public int times(int number) {
        index(isNumber(number));
        int many = 0;
        for (int one : now.decoded) {
            many += one == number ? 1 : 0;
        }
        return many;
    }

    public double perCycle() {
        return now.cycles == 0 ? 0 : (double) now.decoded.size() / (double) now.cycles;
    }

    public float fusedShare() {
        return now.decoded.isEmpty() ? 0 : (float) (2 * now.units) / (float) now.decoded.size();
    }

    private static int pass(State state, int cycles) {
        int many = state.decoded.size();
        for (int cycle = 0; cycle < cycles; cycle++) {
            state.cycle();
        }
        return state.decoded.size() - many;
    }

    public int run(int cycles) {
        argument(isCycles(cycles));
        change();
        return pass(now, cycles);
    }

    public int runTo(int many) {
        argument(many >= 0 && many <= 9999);
        change();
        int start = now.cycles;
        while (now.decoded.size() < many && now.cycles < start + 500) {
            now.cycle();
        }
        return now.cycles - start;
    }

    public int stall(int cycles) {
        argument(cycles >= 0 && cycles <= 99);
        change();
        int left = now.stall;
        now.stall = cycles;
        return left;
    }

    public int set(int what, int value) {
        int old;
        if (what == 2) {
            argument(value >= 1 && value <= 6);
            old = now.lanes;
            change();
            now.lanes = value;
        } else if (what == 6) {
            argument(value >= 1 && value <= 8);
            old = now.rate;
            change();
            now.rate = value;
        } else {
            argument(what == 7 && value >= 0 && value <= 30);
            old = now.loopMost;
            change();
            now.loopMost = value;
        }
        return old;
    }

    public int addRule(int first, int second) {
        argument(first >= 0 && first <= 7 && second >= 0 && second <= 9);
        if (now.rules.contains(10 * first + second) || now.rules.size() == 6) {
            throw new IllegalStateException();
        }
        change();
        now.rules.add(10 * first + second);
        return now.rules.size() - 1;
    }

    public int removeRule(int rule) {
        index(rule >= 0 && rule < now.rules.size());
        change();
        return now.rules.remove(rule);
    }

    public int redirect(int number) {
        index(isNumber(number));
        change();
        int many = now.queue.size();
        now.startAt(number);
        return many;
    }

    public int undo() {
        if (before.isEmpty()) {
            throw new IllegalStateException();
        }
        now = before.remove(before.size() - 1);
        return before.size();
    }

    public int cyclesTo(int more) {
        argument(more >= 1 && more <= 999);
        State next = now.copy();
        for (int cycle = 1; cycle <= 500; cycle++) {
            next.cycle();
            if (next.decoded.size() >= now.decoded.size() + more) {
                return cycle;
            }
        }
        return -1;
    }

    public int nextBubbles(int cause) {
        return bubblesIn(1, cause);
    }

    public int bubblesIn(int cycles, int cause) {
        argument(isCycles(cycles) && cause >= 1 && cause <= 8);
        State next = now.copy();
        pass(next, cycles);
        return next.bubbles[cause] - now.bubbles[cause];
    }

    public int roomNeeded(int cycles) {
        argument(isCycles(cycles));
        State next = now.copy();
        int most = next.waiting;
        for (int cycle = 0; cycle < cycles; cycle++) {
            next.cycle();
            most = Math.max(most, next.waiting);
        }
        return most;
    }

    private int best(int what, int least, int greatest, int cycles) {
        argument(isCycles(cycles));
        int best = -1;
        int most = -1;
        for (int value = greatest; value >= least; value--) {
            State next = now.copy();
            next.lanes = what == 2 ? value : next.lanes;
            next.rate = what == 6 ? value : next.rate;
            next.loopMost = what == 7 ? value : next.loopMost;
            int many = pass(next, cycles);
            if (many >= most) {
                most = many;
                best = value;
            }
        }
        return best;
    }

    public int bestLanes(int cycles) {
        return best(2, 1, 6, cycles);
    }

    public int bestRate(int cycles) {
        return best(6, 1, 8, cycles);
    }

    public int bestLoop(int cycles) {
        return best(7, 0, 30, cycles);
    }

    public int cyclesUntil(int number) {
        index(isNumber(number));
        State next = now.copy();
        for (int cycle = 1; cycle <= 500; cycle++) {
            int from = next.decoded.size();
            next.cycle();
            if (next.decoded.subList(from, next.decoded.size()).contains(number)) {
                return cycle;
            }
        }
        return -1;
    }

    public int mainCauseIn(int cycles) {
        argument(isCycles(cycles));
        State next = now.copy();
        pass(next, cycles);
        return main(next.bubbles, now.bubbles);
    }

    public int ruleGain(int first, int second, int cycles) {
        argument(first >= 0 && first <= 7 && second >= 0 && second <= 9 && isCycles(cycles));
        State with = now.copy();
        if (!with.rules.contains(10 * first + second)) {
            with.rules.add(10 * first + second);
        }
        return pass(with, cycles) - pass(now.copy(), cycles);
    }

    public int printInstruction(int number) {
        index(isNumber(number));
        Line line = now.lines.get(number);
        output = line.address + " " + (line.isLong ? "long " : "") + WORDS[line.kind]
                + (line.jumps() ? " " + line.target : "") + (now.fuses(number) ? "+" : "");
        return output.length();
    }

    public int outputByte(int index) {
        return index >= 0 && index < output.length() ? output.charAt(index) : -1;
    }

    public int saveState() {
        saved = now.copy();
        return now.cycles;
    }

    public int restoreState() {
        if (saved == null) {
            throw new IllegalStateException();
        }
        now = saved.copy();
        before.clear();
        return now.cycles;
    }
}
