import java.util.NoSuchElementException;

/** All promises: a call that is refused, and one that only asks, leaves everything as it was. */
public final class RefusedTest {
    private static final Class<IndexOutOfBoundsException> NO_INDEX = IndexOutOfBoundsException.class;
    private static final Class<IllegalArgumentException> NO_ARGUMENT = IllegalArgumentException.class;
    private static final Class<IllegalStateException> NO_STATE = IllegalStateException.class;
    private static final Class<NoSuchElementException> NO_ELEMENT = NoSuchElementException.class;
    private static final int STATES = 5;
    private static final int BUFFERED = 13;
    private static final int SIX_RULES = 2;
    private static final int NOTHING_SAVED = 3;

    private interface Call {
        int make(FusionFront front);
    }

    private RefusedTest() {
    }

    public static void main(String[] args) {
        Checks.sentence("A method that throws changes nothing.");
        noSuchInstruction();
        otherIndices();
        ranges();
        rangesOfChanges();
        rangesOfForecasts();
        states();
        statesAreAsTold();
        buffer();
        texts();
        onlyAsked();
        Checks.end();
    }

    /** 0 is new; 1 has a queue and a length pause, 2 a loop, 3 a pause and a stall, 4 a cut one. */
    private static FusionFront front(int state) {
        FusionFront front = new FusionFront();
        switch (state) {
            case 1:
                Checks.parse(front, "lanes 2;fuse nop add;nop;nop;long add;branch back 2 times 3;");
                front.run(2);
                front.printInstruction(2);
                Checks.parse(front, "nop;lanes 7;");
                front.saveState();
                front.stall(3);
                break;
            case SIX_RULES:
                Checks.parse(front, "lanes 3;loop 9;fuse nop nop;fuse nop add;fuse add mov;fuse mov add;fuse cmp jump;"
                        + "fuse test jump;add;mov;jump back 2;");
                for (int cycle = 1; cycle <= 5; cycle++) {
                    front.run(1);
                }
                front.saveState();
                front.run(1);
                front.run(1);
                break;
            case NOTHING_SAVED:
                Checks.parse(front, "lanes 2;rate 1;branch ahead 1 times 2;nop;store;jump back 3;");
                front.printInstruction(3);
                front.run(2);
                front.stall(5);
                front.run(1);
                break;
            case 4:
                Checks.parse(front, "window 8;lanes 1;mov;mov;mov;nop;");
                front.saveState();
                front.run(1);
                break;
            default:
                break;
        }
        // The buffer holds three instructions.
        front.feed(0x6e6f703b, 0x6164643b, 0x6d6f763b, 0x0a787878, 0x78787878);
        front.truncate(BUFFERED);
        return front;
    }

    private static boolean hasSaved(int state) {
        return state != 0 && state != NOTHING_SAVED;
    }

    /** Compares a front end with one that was made by the same calls but for those that must change nothing. */
    private static void same(String what, FusionFront front, int state) {
        FusionFront twin = front(state);
        Twins.whole(what, front, twin);
        Checks.same(what + " code", front.errorCode(), twin.errorCode());
        Checks.same(what + " offset", front.errorOffset(), twin.errorOffset());
        Checks.holds(what + " output", Checks.output(front).equals(Checks.output(twin)));
        Checks.same(what + " cycles", front.run(9), twin.run(9));
        Checks.same(what + " place", front.count(20), twin.count(20));
        for (int changes = twin.count(24); changes > 0; changes--) {
            Checks.same(what + " undo", front.undo(), twin.undo());
            Checks.same(what + " undone", front.count(9), twin.count(9));
        }
        if (hasSaved(state)) {
            Checks.same(what + " restore", front.restoreState(), twin.restoreState());
            Checks.same(what + " restored", front.count(10), twin.count(10));
        }
    }

    private static void sameBuffer(String what, FusionFront front) {
        Checks.fails(what + " buffer is no longer", front.truncate(BUFFERED + 1));
        Checks.holds(what + " buffer is no shorter", front.truncate(BUFFERED));
        Checks.same(what + " bytes of the buffer", front.parse(), 3);
    }

    private static void throwsIn(int state, String what, Class<? extends RuntimeException> type, Call call) {
        FusionFront front = front(state);
        String where = what + " in state " + state;
        Checks.throwsOne(where, type, () -> call.make(front));
        same(where, front, state);
        sameBuffer(where, front);
    }

    private static void throwsOne(String what, Class<? extends RuntimeException> type, Call call) {
        for (int state = 0; state < STATES; state++) {
            throwsIn(state, what, type, call);
        }
    }

    private static void answers(String what, int due, Call call) {
        for (int state = 0; state < STATES; state++) {
            FusionFront front = front(state);
            String where = what + " in state " + state;
            Checks.same(where, call.make(front), due);
            same(where, front, state);
            sameBuffer(where, front);
        }
    }

    private static int one(boolean answer) {
        return answer ? 1 : 0;
    }

    private static void noSuchInstruction() {
        throwsOne("instruction -1", NO_INDEX, front -> front.instruction(-1, 0));
        throwsOne("instruction behind", NO_INDEX, front -> front.instruction(front.count(0), 0));
        throwsOne("property -1", NO_INDEX, front -> front.instruction(0, -1));
        throwsOne("property 8", NO_INDEX, front -> front.instruction(0, 8));
        throwsOne("crosses -1", NO_INDEX, front -> one(front.crosses(-1)));
        throwsOne("crosses behind", NO_INDEX, front -> one(front.crosses(front.count(0))));
        throwsOne("fuses -1", NO_INDEX, front -> one(front.fuses(-1)));
        throwsOne("fuses behind", NO_INDEX, front -> one(front.fuses(front.count(0))));
        throwsOne("isLoopable -1", NO_INDEX, front -> one(front.isLoopable(-1)));
        throwsOne("isLoopable behind", NO_INDEX, front -> one(front.isLoopable(front.count(0))));
        throwsOne("times -1", NO_INDEX, front -> front.times(-1));
        throwsOne("times behind", NO_INDEX, front -> front.times(front.count(0)));
        throwsOne("redirect -1", NO_INDEX, front -> front.redirect(-1));
        throwsOne("redirect behind", NO_INDEX, front -> front.redirect(front.count(0)));
        throwsOne("cyclesUntil -1", NO_INDEX, front -> front.cyclesUntil(-1));
        throwsOne("cyclesUntil behind", NO_INDEX, front -> front.cyclesUntil(front.count(0)));
        throwsOne("printInstruction -1", NO_INDEX, front -> front.printInstruction(-1));
        throwsOne("printInstruction behind", NO_INDEX, front -> front.printInstruction(front.count(0)));
    }

    private static void otherIndices() {
        throwsOne("rule -1", NO_INDEX, front -> front.rule(-1, false));
        throwsOne("rule behind", NO_INDEX, front -> front.rule(front.count(8), true));
        throwsOne("removeRule -1", NO_INDEX, front -> front.removeRule(-1));
        throwsOne("removeRule behind", NO_INDEX, front -> front.removeRule(front.count(8)));
        throwsOne("queueAt -1", NO_ELEMENT, front -> front.queueAt(-1));
        throwsOne("queueAt behind", NO_ELEMENT, front -> front.queueAt(front.count(19)));
        throwsOne("decoded -1", NO_ELEMENT, front -> front.decoded(-1));
        throwsOne("decoded behind", NO_ELEMENT, front -> front.decoded(front.count(10)));
        throwsOne("decoded 100", NO_ELEMENT, front -> front.decoded(100));
    }

    private static void ranges() {
        for (int kind : new int[] {-1, 10}) {
            throwsOne("ofKind " + kind, NO_ARGUMENT, front -> front.ofKind(kind, true));
            throwsOne("ofKind " + kind, NO_ARGUMENT, front -> front.ofKind(kind, false));
        }
        for (int what : new int[] {-1, 4}) {
            throwsOne("loop " + what, NO_ARGUMENT, front -> front.loop(what));
        }
        for (int cause : new int[] {0, 9}) {
            throwsOne("bubbles " + cause, NO_ARGUMENT, front -> front.bubbles(cause));
            throwsOne("nextBubbles " + cause, NO_ARGUMENT, front -> front.nextBubbles(cause));
            throwsOne("bubblesIn " + cause, NO_ARGUMENT, front -> front.bubblesIn(1, cause));
        }
        for (int index : new int[] {-1, 10000}) {
            throwsOne("plain " + index, NO_ARGUMENT, front -> front.plain(index));
        }
    }

    private static void rangesOfChanges() {
        for (int cycles : new int[] {0, 501}) {
            throwsOne("run " + cycles, NO_ARGUMENT, front -> front.run(cycles));
        }
        for (int many : new int[] {-1, 10000}) {
            throwsOne("runTo " + many, NO_ARGUMENT, front -> front.runTo(many));
        }
        for (int cycles : new int[] {-1, 100}) {
            throwsOne("stall " + cycles, NO_ARGUMENT, front -> front.stall(cycles));
        }
        int[][] sets = {{2, 0}, {2, 7}, {6, 0}, {6, 9}, {7, -1}, {7, 31}, {0, 4}, {1, 4}, {3, 8}, {4, 8}, {5, 8}, {8, 8}, {-1, 8}};
        for (int[] set : sets) {
            throwsOne("set " + set[0] + " " + set[1], NO_ARGUMENT, front -> front.set(set[0], set[1]));
        }
        int[][] kinds = {{-1, 0}, {8, 0}, {0, -1}, {0, 10}, {9, 9}};
        for (int[] pair : kinds) {
            throwsOne("addRule " + pair[0] + " " + pair[1], NO_ARGUMENT, front -> front.addRule(pair[0], pair[1]));
        }
    }

    private static void rangesOfForecasts() {
        for (int more : new int[] {0, 1000}) {
            throwsOne("cyclesTo " + more, NO_ARGUMENT, front -> front.cyclesTo(more));
        }
        for (int cycles : new int[] {0, 501}) {
            throwsOne("bubblesIn " + cycles, NO_ARGUMENT, front -> front.bubblesIn(cycles, 1));
            throwsOne("roomNeeded " + cycles, NO_ARGUMENT, front -> front.roomNeeded(cycles));
            throwsOne("bestLanes " + cycles, NO_ARGUMENT, front -> front.bestLanes(cycles));
            throwsOne("bestRate " + cycles, NO_ARGUMENT, front -> front.bestRate(cycles));
            throwsOne("bestLoop " + cycles, NO_ARGUMENT, front -> front.bestLoop(cycles));
            throwsOne("mainCauseIn " + cycles, NO_ARGUMENT, front -> front.mainCauseIn(cycles));
            throwsOne("ruleGain " + cycles, NO_ARGUMENT, front -> front.ruleGain(7, 9, cycles));
        }
        int[][] kinds = {{-1, 0}, {8, 0}, {0, -1}, {0, 10}};
        for (int[] pair : kinds) {
            throwsOne("ruleGain " + pair[0] + " " + pair[1], NO_ARGUMENT, front -> front.ruleGain(pair[0], pair[1], 1));
        }
    }

    private static void states() {
        throwsIn(0, "undo", NO_STATE, FusionFront::undo);
        throwsIn(0, "restoreState", NO_STATE, FusionFront::restoreState);
        throwsIn(NOTHING_SAVED, "restoreState", NO_STATE, FusionFront::restoreState);
        throwsIn(1, "addRule that stands", NO_STATE, front -> front.addRule(0, 1));
        throwsIn(SIX_RULES, "addRule that stands", NO_STATE, front -> front.addRule(6, 8));
        throwsIn(SIX_RULES, "a 7th rule", NO_STATE, front -> front.addRule(7, 9));
    }

    /** Without these the checks above would say little. */
    private static void statesAreAsTold() {
        FusionFront queue = front(1);
        Checks.holds("a queue", queue.count(19) > 0);
        Checks.holds("a length pause", queue.count(22) > 0);
        Checks.same("an error", queue.errorCode(), 2);
        Checks.holds("an output", queue.outputByte(0) != FusionFront.NONE);
        FusionFront loop = front(SIX_RULES);
        Checks.same("a loop", loop.loop(1), 2);
        Checks.same("six rules", loop.count(8), 6);
        Checks.same("six changes", loop.count(24), 6);
        FusionFront pause = front(NOTHING_SAVED);
        Checks.holds("a pause", pause.count(21) > 0);
        Checks.holds("a stall", pause.count(23) > 0);
        Checks.holds("a cut one", front(4).isCut());
    }

    private static void buffer() {
        Checks.sentence("Returns true; false, with no change, if length is negative or greater than the length of "
                + "the buffer.");
        answers("truncate -1", 0, front -> one(front.truncate(-1)));
        answers("truncate 14", 0, front -> one(front.truncate(BUFFERED + 1)));
        answers("truncate greatest", 0, front -> one(front.truncate(Integer.MAX_VALUE)));
        Checks.sentence("Returns the new length of the buffer; NONE, with no change, if it would exceed 600.");
        for (int state = 0; state < STATES; state++) {
            FusionFront front = front(state);
            for (int length = BUFFERED + 20; length <= 600; length += 20) {
                Checks.same("fed", front.feed(0x20202020, 0x20202020, 0x20202020, 0x20202020, 0x20202020), length);
            }
            Checks.same("593 and 20 in state " + state, front.feed(0, 0, 0, 0, 0), FusionFront.NONE);
            same("feed in state " + state, front, state);
            Checks.fails("not 594", front.truncate(594));
            Checks.same("bytes", front.parse(), 3);
        }
    }

    private static void texts() {
        Checks.sentence("NONE if the text has an error, in which case everything but the buffer and the error is "
                + "kept.");
        String[] texts = {"x", "lanes 0;", "lanes 1;fuse add mov;mov;mov;mov;mov;lanes 2;", "repeat 9(repeat 9(nop;););"};
        for (String text : texts) {
            for (int state = 0; state < STATES; state++) {
                String where = text + " in state " + state;
                FusionFront front = front(state);
                FusionFront twin = front(state);
                front.truncate(0);
                Checks.same(where, Checks.parse(front, text), FusionFront.NONE);
                Checks.fails(where + " empties the buffer", front.truncate(1));
                Twins.whole(where, front, twin);
                Checks.holds(where + " output", Checks.output(front).equals(Checks.output(twin)));
                Checks.same(where + " cycles", front.run(9), twin.run(9));
                Checks.same(where + " undo", front.undo(), twin.undo());
                if (hasSaved(state)) {
                    Checks.same(where + " restore", front.restoreState(), twin.restoreState());
                } else {
                    Checks.throwsOne(where + " restore", NO_STATE, front::restoreState);
                }
                Checks.same(where + " decoded", front.count(10), twin.count(10));
            }
        }
    }

    private static void onlyAsked() {
        Checks.sentence("Returns the number; NONE for another what.");
        answers("count -1", FusionFront.NONE, front -> front.count(-1));
        answers("count 25", FusionFront.NONE, front -> front.count(25));
        Checks.sentence("Returns number of the instruction; NONE if there is none.");
        answers("at -1", FusionFront.NONE, front -> front.at(-1));
        answers("at behind", FusionFront.NONE, front -> front.at(front.count(1)));
        Checks.sentence("Returns the byte; NONE if there is no such byte.");
        answers("outputByte -1", FusionFront.NONE, front -> front.outputByte(-1));
        answers("outputByte 19", FusionFront.NONE, front -> front.outputByte(19));
        Checks.sentence("forecasts: what comes if cycles pass and nothing else happens; nothing changes.");
        answers("all forecasts", 0, front -> {
            front.cyclesTo(999);
            front.nextBubbles(8);
            front.bubblesIn(500, 1);
            front.roomNeeded(500);
            front.bestLanes(500);
            front.bestRate(500);
            front.bestLoop(500);
            front.mainCauseIn(500);
            front.ruleGain(7, 9, 500);
            return front.count(0) == 0 ? 0 : 0 * front.cyclesUntil(0);
        });
        Checks.sentence("each jump and branch as in section 2.");
        answers("a plain decoder", 0, front -> 0 * front.plain(9999));
    }
}
