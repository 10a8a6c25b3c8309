/** Promises 4, 35, 48 and 49: whatever goes on, a new text, undo and a restored state leave nothing of it behind. */
public final class StateTest {
    private static final String[] TEXTS = {
        "lanes 4;loop 8;fuse cmp branch;mov;cmp;branch back 2 times 5;nop;jump back 4;",
        "window 8;lanes 2;rate 1;ops 4;load;long add;store;div;load;load;long jump back 3;nop;",
        "lanes 6;loop 30;queue 3;fuse add mov;fuse mov add;add;mov;long branch back 2 times 3;test;"
            + "branch ahead 1 times 2;div;branch back 5 times 9;jump back 7;",
        "window 32;lanes 5;rate 8;loop 4;nop;branch back 1 times 2;branch ahead 0 times 1;add;jump back 4;",
        "loop 9;nop;add;jump back 2;",
        "lanes 1;nop;add;mov;",
        "",
    };
    private static final int CYCLES = 40;

    private StateTest() {
    }

    public static void main(String[] args) {
        for (String text : TEXTS) {
            newTextBehind(text);
            for (int cycles = 1; cycles <= CYCLES; cycles++) {
                undoAndRestore(text, cycles);
                forecastsComeTrue(text, cycles);
            }
        }
        errorsBehindErrors();
        undoneText();
        anotherLoop();
        Checks.end();
    }

    private static FusionFront ran(String text, int cycles) {
        FusionFront front = Checks.made(text);
        for (int cycle = 0; cycle < cycles; cycle++) {
            front.run(1);
        }
        return front;
    }

    private static void newTextBehind(String text) {
        for (String before : TEXTS) {
            for (int cycles = 0; cycles <= CYCLES; cycles += 3) {
                FusionFront front = ran(before, cycles);
                front.stall(cycles);
                if (cycles % 2 == 0 && front.count(0) > 0) {
                    front.redirect(0);
                }
                Checks.parse(front, text);
                Twins.sameCycles(text + " behind " + before, front, Checks.made(text));
            }
        }
    }

    private static void undoAndRestore(String text, int cycles) {
        FusionFront undone = ran(text, cycles);
        int many = Math.min(cycles, 6);
        Checks.same(text + " changes", undone.count(24), many);
        undone.run(7);
        undone.undo();
        Twins.sameCycles(text + " undone " + cycles, undone, ran(text, cycles));
        FusionFront restored = ran(text, cycles);
        restored.saveState();
        restored.run(1 + cycles);
        restored.stall(3);
        restored.restoreState();
        Twins.sameCycles(text + " restored " + cycles, restored, ran(text, cycles));
    }

    private static void forecastsComeTrue(String text, int cycles) {
        FusionFront front = ran(text, cycles);
        FusionFront later = ran(text, cycles);
        int many = later.run(cycles);
        for (int cause = 1; cause <= 8; cause++) {
            int due = later.bubbles(cause) - front.bubbles(cause);
            Checks.same(text + " bubblesIn " + cycles, front.bubblesIn(cycles, cause), due);
        }
        if (many > 0) {
            int to = front.cyclesTo(many);
            Checks.holds(text + " cyclesTo " + cycles, to >= 1 && to <= cycles);
            Checks.same(text + " runTo " + cycles, front.runTo(front.count(10) + many), to);
        }
    }

    private static void errorsBehindErrors() {
        FusionFront front = new FusionFront();
        Checks.parse(front, "lanes 2;fuse nop nop;repeat 2(repeat 2(nop;");
        Checks.same("lanes, rules and brackets are forgotten", Checks.parse(front, "lanes 2;fuse nop nop;nop;"), 1);
        Checks.same("rules", front.count(8), 1);
        Checks.same("none left", Checks.parse(front, "add;"), 1);
        Checks.same("no rules", front.count(8), 0);
        Checks.same("and none of the text before that", Checks.parse(front, "mov;"), 1);
        Checks.same("again no rules", front.count(8), 0);
        Checks.same("bracket", Checks.parse(front, ");"), FusionFront.NONE);
        Checks.same("bracket code", front.errorCode(), 1);
        Checks.same("bracket offset", front.errorOffset(), 0);
    }

    private static void undoneText() {
        FusionFront front = Checks.made("nop;");
        front.run(1);
        front.saveState();
        Checks.parse(front, "add;mov;");
        Checks.throwsOne("undo", IllegalStateException.class, front::undo);
        Checks.throwsOne("restore", IllegalStateException.class, front::restoreState);
        front.run(3);
        Checks.same("undo of the new text", front.undo(), 0);
        Twins.same("as at first", front, Checks.made("add;mov;"));
    }

    /** Another loop has begun since the state was saved: the saved loop comes back whole. */
    private static void anotherLoop() {
        FusionFront front = Checks.made("lanes 2;loop 30;nop;jump back 1;store;add;jump back 2;");
        front.run(20);
        front.saveState();
        front.redirect(2);
        front.run(20);
        int[] second = {2, 4, front.loop(2), 4};
        int[] first = {0, 1, 0, 2};
        for (int what = 0; what < 4; what++) {
            Checks.same("second loop " + what, front.loop(what), second[what]);
        }
        front.restoreState();
        for (int what = 0; what < 4; what++) {
            Checks.same("saved loop " + what, front.loop(what), first[what]);
        }
    }
}
