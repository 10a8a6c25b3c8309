/** Section 3: the length pause that a long instruction makes, and where the place is behind it. */
public final class LengthPauseTest {
    private static final String MARKED = "a long instruction was marked (there is a length pause of 3 cycles then);";
    private static final String PLACE_IS_SET = "The place is set by a wrong prediction, by a jump or branch that is "
            + "predicted taken, by the end of a loop, and by redirect.";
    private static final String AGREES = "Returns true if it is so; only behind redirect it may not be.";

    private LengthPauseTest() {
    }

    public static void main(String[] args) {
        longJump();
        longBranch();
        longJumpFillsTheQueue();
        longJumpToTheEnd();
        longFillsTheQueue();
        longIsTheLast();
        pauseEndsAtTheEnd();
        nextIsNotCutBeforeThePauseIsOver();
        Checks.end();
    }

    private static void cycles(FusionFront front, int many) {
        for (int cycle = 0; cycle < many; cycle++) {
            front.run(1);
        }
    }

    private static void longJump() {
        FusionFront front = Checks.made("lanes 1;nop;long jump ahead 1;nop;add;nop;");
        front.run(1);
        Checks.sentence(MARKED);
        Checks.same("length pause", front.count(22), 3);
        Checks.sentence(PLACE_IS_SET);
        Checks.same("the target is the place", front.count(20), 3);
        cycles(front, 3);
        Checks.same("no window in the length pause", front.count(13), 1);
        Checks.same("it is over", front.count(22), 0);
        Checks.queue("nothing marked in it", front);
        front.run(1);
        Checks.same("a window, for the place was set", front.count(13), 2);
        Checks.queue("from the target on", front, 3, 4);
        cycles(front, 20);
        Checks.sentence(AGREES);
        Checks.holds("agrees", front.agrees());
        Checks.same("what is skipped", front.times(2), 0);
    }

    private static void longBranch() {
        FusionFront front = Checks.made("lanes 1;nop;long branch back 1 times 2;add;");
        front.run(1);
        Checks.same("predicted not taken", front.count(20), 2);
        cycles(front, 2);
        Checks.same("wrong", front.count(15), 1);
        Checks.sentence(MARKED);
        Checks.same("length pause of the second marking", front.count(22), 3);
        Checks.sentence(PLACE_IS_SET);
        Checks.same("predicted taken", front.count(20), 0);
        Checks.queue("to the branch", front, 0, 1);
        Checks.same("two windows", front.count(13), 2);
        cycles(front, 4);
        Checks.queue("on from the target", front, 0, 1, 0, 1);
        Checks.same("a third window", front.count(13), 3);
        cycles(front, 30);
        Checks.sentence(AGREES);
        Checks.holds("agrees", front.agrees());
        int[] times = {3, 3, 1};
        for (int number = 0; number < 3; number++) {
            Checks.same("times " + number, front.times(number), times[number]);
        }
    }

    private static void longJumpFillsTheQueue() {
        FusionFront front = Checks.made("lanes 1;queue 2;nop;long jump ahead 1;nop;add;");
        front.run(1);
        Checks.sentence(MARKED);
        Checks.queue("full", front, 0, 1);
        Checks.same("length pause", front.count(22), 3);
        Checks.sentence(PLACE_IS_SET);
        Checks.same("place", front.count(20), 3);
        cycles(front, 5);
        Checks.bubbles("one lane for the length pause", front, 2, 0, 1, 0, 0, 0, 0, 0);
        Checks.same("the target", front.decoded(0), 3);
        Checks.holds("agrees", front.agrees());
    }

    private static void longJumpToTheEnd() {
        FusionFront front = Checks.made("lanes 1;nop;long jump ahead 9;nop;");
        front.run(1);
        Checks.sentence(MARKED);
        Checks.same("length pause", front.count(22), 3);
        Checks.sentence(PLACE_IS_SET);
        Checks.same("place", front.count(20), 3);
        cycles(front, 9);
        Checks.sentence("Nothing is fetched while a loop is replayed, or if the place is the end.");
        Checks.same("the length pause stays", front.count(22), 3);
        Checks.bubbles("the end", front, 1, 0, 0, 0, 0, 0, 0, 7);
        Checks.holds("agrees", front.agrees());
    }

    private static void longFillsTheQueue() {
        FusionFront front = Checks.made("lanes 1;queue 2;nop;long nop;nop;");
        front.run(1);
        Checks.sentence(MARKED);
        Checks.queue("full", front, 0, 1);
        Checks.same("length pause", front.count(22), 3);
        front.run(1);
        Checks.sentence("If there is a length pause, it becomes one cycle shorter, and nothing else is done.");
        Checks.same("shorter", front.count(22), 2);
        Checks.queue("nothing marked", front, 1);
        cycles(front, 4);
        Checks.bubbles("one lane for the length pause", front, 2, 0, 1, 0, 0, 0, 0, 0);
        Checks.same("all decoded", front.count(10), 3);
    }

    private static void longIsTheLast() {
        FusionFront front = Checks.made("lanes 1;nop;long nop;");
        front.run(1);
        Checks.sentence(MARKED);
        Checks.same("length pause", front.count(22), 3);
        Checks.same("place", front.count(20), 2);
        cycles(front, 9);
        Checks.sentence("Nothing is fetched while a loop is replayed, or if the place is the end.");
        Checks.same("the length pause stays", front.count(22), 3);
        Checks.bubbles("the end", front, 1, 0, 0, 0, 0, 0, 0, 7);
    }

    private static void pauseEndsAtTheEnd() {
        // The branch is predicted not taken, so that the long one behind it is marked too.
        FusionFront front = Checks.made("lanes 1;nop;branch back 1 times 1;long nop;");
        front.run(2);
        Checks.same("length pause at the end", front.count(22), 3);
        front.run(1);
        Checks.sentence("(A cut and a length pause end.)");
        Checks.same("wrong", front.count(15), 1);
        Checks.same("no length pause", front.count(22), 0);
        FusionFront other = Checks.made("lanes 1;nop;long nop;");
        other.run(5);
        Checks.same("length pause at the end", other.count(22), 3);
        other.redirect(0);
        Checks.sentence("there is a pause of 4 cycles; a cut and a length pause end.");
        Checks.same("no length pause behind redirect", other.count(22), 0);
    }

    private static void nextIsNotCutBeforeThePauseIsOver() {
        // The store has its bytes at 7 to 10, the reach is 8.
        FusionFront front = Checks.made("window 8;lanes 2;load;long add;store;div;");
        front.run(1);
        Checks.sentence(MARKED);
        Checks.same("length pause", front.count(22), 3);
        Checks.fails("not asked of the next one", front.isCut());
        cycles(front, 3);
        Checks.fails("not in the pause", front.isCut());
        front.run(1);
        Checks.holds("cut", front.isCut());
        Checks.same("one cut", front.count(14), 1);
        front.run(1);
        Checks.queue("marked", front, 2, 3);
    }
}
