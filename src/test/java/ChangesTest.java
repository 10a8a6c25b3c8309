/** Promises 28 to 35: the changes, and that they can be undone. */
public final class ChangesTest {
    private static final Class<IndexOutOfBoundsException> NO_INDEX = IndexOutOfBoundsException.class;
    private static final Class<IllegalArgumentException> NO_ARGUMENT = IllegalArgumentException.class;
    private static final Class<IllegalStateException> NO_STATE = IllegalStateException.class;

    private ChangesTest() {
    }

    public static void main(String[] args) {
        running();
        runningTo();
        stalls();
        settings();
        addedRules();
        removedRules();
        redirects();
        undoing();
        whatUndoLeaves();
        failuresChangeNothing();
        Checks.end();
    }

    private static void running() {
        FusionFront front = Checks.made("lanes 2;nop;add;mov;");
        Checks.same("first", front.run(1), 0);
        Checks.same("both", front.run(1), 2);
        Checks.same("the rest", front.run(500), 1);
        Checks.same("cycles", front.count(9), 502);
        Checks.throwsOne("0", NO_ARGUMENT, () -> front.run(0));
        Checks.throwsOne("501", NO_ARGUMENT, () -> front.run(501));
        Checks.throwsOne("-1", NO_ARGUMENT, () -> front.run(-1));
        Checks.same("nothing passed", front.count(9), 502);
        FusionFront once = Checks.made("lanes 2;nop;add;mov;");
        Checks.same("all in one run", once.run(3), 3);
    }

    private static void runningTo() {
        FusionFront front = Checks.made("lanes 2;nop;add;mov;");
        Checks.same("0 is there", front.runTo(0), 0);
        Checks.same("a change all the same", front.count(24), 1);
        Checks.same("two cycles", front.runTo(1), 2);
        Checks.same("one too many", front.count(10), 2);
        Checks.same("2 is there", front.runTo(2), 0);
        Checks.same("one cycle", front.runTo(3), 1);
        Checks.same("never", front.runTo(4), 500);
        Checks.same("cycles", front.count(9), 503);
        Checks.same("greatest", front.runTo(9999), 500);
        Checks.throwsOne("-1", NO_ARGUMENT, () -> front.runTo(-1));
        Checks.throwsOne("10000", NO_ARGUMENT, () -> front.runTo(10000));
    }

    private static void stalls() {
        FusionFront front = Checks.made("nop;");
        Checks.same("none before", front.stall(99), 0);
        Checks.same("in place of it", front.stall(5), 99);
        front.run(2);
        Checks.same("left", front.count(23), 3);
        Checks.same("3 were left", front.stall(0), 3);
        Checks.same("none", front.count(23), 0);
        Checks.throwsOne("-1", NO_ARGUMENT, () -> front.stall(-1));
        Checks.throwsOne("100", NO_ARGUMENT, () -> front.stall(100));
    }

    private static void settings() {
        int[][] rows = {{2, 1, 6, 4}, {6, 1, 8, 4}, {7, 0, 30, 0}};
        for (int[] row : rows) {
            FusionFront front = Checks.made("nop;");
            Checks.same("before " + row[0], front.set(row[0], row[1]), row[3]);
            Checks.same("least " + row[0], front.count(row[0]), row[1]);
            Checks.same("then " + row[0], front.set(row[0], row[2]), row[1]);
            Checks.same("greatest " + row[0], front.count(row[0]), row[2]);
            Checks.throwsOne("too small " + row[0], NO_ARGUMENT, () -> front.set(row[0], row[1] - 1));
            Checks.throwsOne("too great " + row[0], NO_ARGUMENT, () -> front.set(row[0], row[2] + 1));
            Checks.same("unchanged " + row[0], front.count(row[0]), row[2]);
        }
        FusionFront front = Checks.made("nop;");
        for (int what : new int[] {-1, 0, 1, 3, 4, 5, 8, Integer.MIN_VALUE, Integer.MAX_VALUE}) {
            Checks.throwsOne("what " + what, NO_ARGUMENT, () -> front.set(what, 8));
        }
        // A loop goes on, whatever loop is then; with other lanes and another rate.
        FusionFront looped = Checks.made("lanes 2;loop 9;nop;jump back 1;");
        looped.run(5);
        looped.set(7, 0);
        looped.set(2, 6);
        looped.set(6, 8);
        Checks.same("six lanes", looped.run(1), 6);
        Checks.same("the loop goes on", looped.loop(1), 1);
    }

    private static void addedRules() {
        FusionFront front = Checks.made("fuse nop nop;nop;add;mov;");
        Checks.same("second", front.addRule(7, 9), 1);
        Checks.same("first kind", front.rule(1, false), 7);
        Checks.same("second kind", front.rule(1, true), 9);
        Checks.throwsOne("it stands", NO_STATE, () -> front.addRule(7, 9));
        Checks.throwsOne("of the text", NO_STATE, () -> front.addRule(0, 0));
        Checks.throwsOne("first 8", NO_ARGUMENT, () -> front.addRule(8, 0));
        Checks.throwsOne("first -1", NO_ARGUMENT, () -> front.addRule(-1, 0));
        Checks.throwsOne("second 10", NO_ARGUMENT, () -> front.addRule(0, 10));
        Checks.throwsOne("second -1", NO_ARGUMENT, () -> front.addRule(0, -1));
        Checks.same("third", front.addRule(1, 2), 2);
        Checks.same("fourth", front.addRule(2, 1), 3);
        Checks.same("fifth", front.addRule(0, 1), 4);
        Checks.same("sixth", front.addRule(1, 0), 5);
        Checks.throwsOne("seventh", NO_STATE, () -> front.addRule(5, 5));
        Checks.throwsOne("argument comes first", NO_ARGUMENT, () -> front.addRule(8, 5));
        Checks.same("six", front.count(8), 6);
        Checks.holds("fuses", front.fuses(1));
    }

    private static void removedRules() {
        FusionFront front = Checks.made("fuse nop nop;fuse add branch;fuse mov store;nop;");
        Checks.same("the middle one", front.removeRule(1), 19);
        Checks.same("two", front.count(8), 2);
        Checks.same("later one", front.rule(1, false), 2);
        Checks.same("later one's second", front.rule(1, true), 4);
        Checks.throwsOne("2", NO_INDEX, () -> front.removeRule(2));
        Checks.throwsOne("-1", NO_INDEX, () -> front.removeRule(-1));
        Checks.same("the first one", front.removeRule(0), 0);
        Checks.same("the last one", front.removeRule(0), 24);
        Checks.throwsOne("none", NO_INDEX, () -> front.removeRule(0));
        Checks.same("again", front.addRule(0, 0), 0);
    }

    private static void redirects() {
        FusionFront front = Checks.made("lanes 1;nop;add;long mov;cmp;");
        front.run(2);
        Checks.same("place", front.count(20), 3);
        Checks.same("length pause", front.count(22), 2);
        Checks.same("two in the queue", front.redirect(1), 2);
        Checks.same("empty", front.count(19), 0);
        Checks.same("new place", front.count(20), 1);
        Checks.same("pause", front.count(21), 4);
        Checks.same("no length pause", front.count(22), 0);
        int windows = front.count(13);
        front.run(1);
        Checks.same("a window is read", front.count(13), windows + 1);
        Checks.same("paused", front.bubbles(4), 1);
        front.run(3);
        Checks.same("four lanes", front.bubbles(4), 4);
        Checks.same("add", front.run(1), 1);
        Checks.same("it is add", front.decoded(0), 1);
        Checks.same("no wrong prediction", front.count(15), 0);
        Checks.throwsOne("-1", NO_INDEX, () -> front.redirect(-1));
        Checks.throwsOne("4", NO_INDEX, () -> front.redirect(4));
        Checks.throwsOne("empty program", NO_INDEX, () -> new FusionFront().redirect(0));
    }

    private static void undoing() {
        FusionFront front = Checks.made("nop;add;mov;");
        Checks.throwsOne("nothing yet", NO_STATE, front::undo);
        front.run(1);
        front.stall(4);
        front.set(2, 1);
        front.addRule(0, 1);
        front.removeRule(0);
        front.redirect(2);
        front.runTo(1);
        front.set(6, 1);
        Checks.same("only six", front.count(24), 6);
        Checks.same("set 6", front.undo(), 5);
        Checks.same("rate", front.count(6), 4);
        Checks.same("count", front.count(24), 5);
        Checks.same("runTo", front.undo(), 4);
        Checks.same("decoded", front.count(10), 0);
        Checks.same("cycles", front.count(9), 1);
        Checks.same("pause", front.count(21), 4);
        Checks.same("redirect", front.undo(), 3);
        Checks.same("queue", front.count(19), 3);
        Checks.same("place", front.count(20), 3);
        Checks.same("removeRule", front.undo(), 2);
        Checks.same("rules", front.rule(0, true), 1);
        Checks.same("addRule", front.undo(), 1);
        Checks.same("no rules", front.count(8), 0);
        Checks.same("set 2", front.undo(), 0);
        Checks.same("lanes", front.count(2), 4);
        Checks.throwsOne("no more", NO_STATE, front::undo);
        Checks.same("stall stays", front.count(23), 4);
        Checks.same("one more change", front.stall(0), 4);
        Checks.same("undone", front.undo(), 0);
        Checks.same("as before", front.count(23), 4);
    }

    private static void whatUndoLeaves() {
        FusionFront front = Checks.made("nop;add;mov;");
        front.run(1);
        front.saveState();
        front.feed(0x6e6f703b, 0, 0, 0, 0);
        front.truncate(4);
        front.printInstruction(1);
        front.undo();
        Checks.same("output stays", front.outputByte(0), '1');
        Checks.same("saved state stays", front.restoreState(), 1);
        Checks.same("buffer stays", front.parse(), 1);
        front.run(1);
        Checks.parse(front, "x");
        front.undo();
        Checks.same("error stays", front.errorCode(), 1);
        Checks.same("offset stays", front.errorOffset(), 0);
        // Predictions, turns and the latest taken one are undone too.
        FusionFront branch = Checks.made("loop 9;add;branch back 1 times 2;load;");
        branch.run(2);
        Checks.same("taken", branch.instruction(1, 7), 1);
        branch.undo();
        Checks.same("not decoded", branch.instruction(1, 7), 0);
        Checks.same("times", branch.times(1), 0);
        branch.run(60);
        Checks.same("turns anew", branch.times(1), 3);
        Checks.holds("agrees", branch.agrees());
    }

    private static void failuresChangeNothing() {
        FusionFront front = Checks.made("nop;add;mov;");
        front.run(2);
        Checks.throwsOne("run", NO_ARGUMENT, () -> front.run(0));
        Checks.throwsOne("set", NO_ARGUMENT, () -> front.set(2, 7));
        Checks.throwsOne("addRule", NO_ARGUMENT, () -> front.addRule(9, 9));
        Checks.throwsOne("removeRule", NO_INDEX, () -> front.removeRule(0));
        Checks.throwsOne("redirect", NO_INDEX, () -> front.redirect(3));
        Checks.throwsOne("stall", NO_ARGUMENT, () -> front.stall(100));
        Checks.throwsOne("runTo", NO_ARGUMENT, () -> front.runTo(-1));
        Checks.same("one change", front.count(24), 1);
        Checks.same("cycles", front.count(9), 2);
    }
}
