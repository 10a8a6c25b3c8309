/** Section 3: what happens in a cycle, told by the causes, the queue, the windows and the loops (promises 7, 17 to 20). */
public final class CycleTest {
    private CycleTest() {
    }

    public static void main(String[] args) {
        cutsAndRoom();
        lengthPause();
        longOnesAtTheEdges();
        fullQueue();
        windowsBeyond();
        fusedUnits();
        wrongPrediction();
        rightPrediction();
        longJump();
        loopOfJump();
        loopOfBranch();
        loopNotBegun();
        fusedInLoop();
        stalled();
        emptyProgram();
        Checks.end();
    }

    private static void cutsAndRoom() {
        // Addresses 0, 4, 6, 10, 13: the store crosses from one window into the next one.
        FusionFront front = Checks.made("lanes 4;window 8;queue 4;ops 4;rate 1;load;add;store;div;nop;");
        front.run(1);
        Checks.bubbles("first cycle", front, 4, 0, 0, 0, 0, 0, 0, 0);
        Checks.queue("first cycle", front, 0, 1);
        Checks.holds("store is cut", front.isCut());
        Checks.same("one window", front.count(13), 1);
        Checks.same("one cut", front.count(14), 1);
        Checks.same("place", front.count(20), 2);
        Checks.same("second cycle", front.run(1), 2);
        Checks.bubbles("second cycle", front, 4, 2, 0, 0, 0, 0, 0, 0);
        Checks.queue("second cycle", front, 2, 3, 4);
        Checks.fails("not cut any more", front.isCut());
        Checks.same("two windows", front.count(13), 2);
        Checks.same("the end", front.count(20), 5);
        Checks.same("third cycle", front.run(1), 1);
        Checks.bubbles("third cycle", front, 4, 2, 0, 0, 3, 0, 0, 0);
        Checks.same("store waits", front.count(18), 3);
        Checks.same("div does not fit", front.run(2), 0);
        Checks.bubbles("fifth cycle", front, 4, 2, 0, 0, 3, 8, 0, 0);
        Checks.same("div fits", front.run(1), 1);
        Checks.bubbles("sixth cycle", front, 4, 2, 0, 0, 3, 11, 0, 0);
        Checks.same("ops that wait", front.count(18), 4);
        Checks.same("nop", front.run(1), 1);
        Checks.bubbles("seventh cycle", front, 4, 2, 0, 0, 3, 11, 0, 3);
        Checks.same("nothing is left", front.run(5), 0);
        Checks.bubbles("twelfth cycle", front, 4, 2, 0, 0, 3, 11, 0, 23);
        Checks.same("all is taken", front.count(18), 0);
        Checks.same("ops", front.count(11), 9);
        Checks.same("windows at the end", front.count(13), 2);
    }

    private static void lengthPause() {
        FusionFront front = Checks.made("lanes 2;long nop;nop;");
        front.run(1);
        Checks.same("pause begins", front.count(22), 3);
        Checks.queue("long", front, 0);
        Checks.same("place behind it", front.count(20), 1);
        Checks.same("decoded", front.run(1), 1);
        Checks.bubbles("second cycle", front, 2, 0, 1, 0, 0, 0, 0, 0);
        Checks.same("pause of 2", front.count(22), 2);
        front.run(2);
        Checks.bubbles("fourth cycle", front, 2, 0, 5, 0, 0, 0, 0, 0);
        Checks.same("no pause", front.count(22), 0);
        Checks.queue("nothing yet", front);
        front.run(1);
        Checks.bubbles("fifth cycle", front, 4, 0, 5, 0, 0, 0, 0, 0);
        Checks.queue("nop", front, 1);
        Checks.same("last one", front.run(1), 1);
        Checks.bubbles("sixth cycle", front, 4, 0, 5, 0, 0, 0, 0, 1);
        Checks.same("one window", front.count(13), 1);
    }

    private static void longOnesAtTheEdges() {
        // At the end nothing is fetched, so that the pause does not become shorter either.
        FusionFront front = Checks.made("nop;long add;");
        front.run(1);
        Checks.same("pause at the end", front.count(22), 3);
        front.run(4);
        Checks.same("pause stays", front.count(22), 3);
        Checks.same("cause is the end", front.bubbles(3), 0);
        front.redirect(0);
        Checks.same("redirect ends it", front.count(22), 0);
        // The queue is full with the long one, and there is a pause all the same.
        front = Checks.made("lanes 1;queue 2;nop;long add;nop;");
        front.run(1);
        Checks.queue("full", front, 0, 1);
        Checks.same("pause behind a full queue", front.count(22), 3);
    }

    private static void fullQueue() {
        // Addresses 0, 4, 8: the queue is full before the third one would be cut.
        FusionFront front = Checks.made("lanes 1;window 8;queue 2;load;mov;load;nop;");
        front.run(1);
        Checks.queue("full", front, 0, 1);
        Checks.fails("not cut", front.isCut());
        Checks.same("no cut", front.count(14), 0);
        front.run(1);
        Checks.queue("one has left", front, 1);
        Checks.holds("cut when there is room", front.isCut());
        front.run(1);
        Checks.queue("next window", front, 2, 3);
        Checks.same("windows", front.count(13), 2);
        Checks.fails("cut has ended", front.isCut());
    }

    private static void windowsBeyond() {
        // Two loads end where the window ends: nothing is cut, and the next window is read for the place.
        FusionFront front = Checks.made("window 8;load;load;nop;jump ahead 1;nop;load;load;load;load;nop;");
        front.run(1);
        Checks.fails("not cut", front.isCut());
        Checks.same("one window", front.count(13), 1);
        front.run(1);
        Checks.queue("to the jump", front, 2, 3);
        Checks.same("place is the target", front.count(20), 5);
        front.run(1);
        Checks.same("the window of the target is read", front.count(13), 3);
        Checks.queue("target", front, 5);
        Checks.fails("the next one begins at the reach", front.isCut());
        Checks.same("taken", front.bubbles(7), 2);
    }

    private static void fusedUnits() {
        FusionFront front = Checks.made("lanes 4;fuse add mov;fuse mov store;add;mov;store;add;long mov;add;nop;");
        front.run(1);
        Checks.queue("before the pause", front, 0, 1, 2, 3, 4);
        Checks.same("add with mov in one lane, store has two ops", front.run(1), 2);
        Checks.same("units", front.count(12), 1);
        Checks.same("ops of the unit", front.count(11), 1);
        Checks.same("causes", front.bubbles(5), 3);
        Checks.same("store, add, long mov", front.run(1), 3);
        Checks.same("long is not fused", front.count(12), 1);
        // div and div are seven ops and never fit.
        front = Checks.made("ops 4;fuse div div;div;div;");
        Checks.same("never", front.run(20), 0);
        Checks.same("no room", front.bubbles(6), 4 * 19);
        // The next one is not in the queue yet, because it is cut: no fusion.
        front = Checks.made("window 8;lanes 2;fuse load load;mov;load;load;");
        front.run(2);
        Checks.same("not fused", front.count(12), 0);
        Checks.same("both decoded", front.count(10), 2);
        // The next one of the queue is not the next one by number: no fusion.
        front = Checks.made("fuse mov add;mov;jump ahead 1;nop;add;");
        front.run(6);
        Checks.same("no pair", front.count(12), 0);
        // The pair fits in one window, but its second one begins in the next window.
        front = Checks.made("window 8;fuse load add;nop;mov;load;add;");
        front.run(6);
        Checks.same("two windows", front.count(12), 0);
        // A pair is fused only if it is in the queue as a whole.
        front = Checks.made("queue 2;lanes 1;fuse mov add;nop;mov;add;");
        front.run(2);
        Checks.queue("one behind the other", front, 1, 2);
        Checks.same("fused", front.run(1), 2);
    }

    private static void wrongPrediction() {
        FusionFront front = Checks.made("lanes 2;nop;branch ahead 1 times 1;add;mov;");
        front.run(1);
        Checks.queue("predicted not taken", front, 0, 1, 2, 3);
        Checks.same("both", front.run(1), 2);
        Checks.same("wrong", front.count(15), 1);
        Checks.same("pause", front.count(21), 4);
        Checks.queue("only the target", front, 3);
        Checks.same("the target's window was read again", front.count(13), 2);
        Checks.same("predicted taken now", front.instruction(1, 7), 1);
        front.run(3);
        Checks.bubbles("in the pause", front, 2, 0, 0, 6, 0, 0, 0, 0);
        Checks.same("pause of 1", front.count(21), 1);
        front.run(1);
        Checks.same("no pause", front.count(21), 0);
        Checks.same("mov", front.run(1), 1);
        Checks.bubbles("behind it", front, 2, 0, 0, 8, 0, 0, 0, 1);
        // The lanes behind the wrong branch are unused for the pause already.
        front = Checks.made("lanes 6;branch ahead 0 times 1;nop;");
        front.run(2);
        Checks.bubbles("ahead 0", front, 6, 0, 0, 5, 0, 0, 0, 0);
        Checks.same("taken to the next one", front.count(15), 1);
        // Predicted taken, but it goes on.
        front = Checks.made("lanes 6;nop;branch back 1 times 1;add;");
        front.run(2);
        front.run(4);
        Checks.same("again", front.run(1), 2);
        Checks.same("wrong again", front.count(15), 2);
        Checks.same("place becomes the next one", front.decoded(0), 1);
        front.run(5);
        Checks.same("the next one", front.decoded(0), 2);
    }

    private static void rightPrediction() {
        FusionFront front = Checks.made("lanes 6;branch ahead 1 times 1;nop;add;jump back 3;");
        // The branch is not taken in its second turn, taken in its third one; the prediction is one late.
        front.run(40);
        Checks.holds("agrees", front.agrees());
        Checks.same("all wrong", front.count(15), front.times(0));
        front = Checks.made("lanes 2;jump ahead 1;nop;add;");
        front.run(3);
        Checks.same("the jump at the start", front.decoded(0), 2);
        Checks.same("its lane", front.bubbles(7), 1);
        front = Checks.made("lanes 6;nop;jump ahead 1;add;mov;");
        front.run(2);
        Checks.bubbles("taken", front, 6, 0, 0, 0, 0, 0, 4, 0);
        Checks.same("nothing wrong", front.count(15), 0);
        Checks.same("last", front.run(1), 1);
        Checks.same("mov", front.decoded(0), 3);
    }

    private static void longJump() {
        // A long jump makes a length pause, and its target is the place.
        FusionFront front = Checks.made("lanes 2;nop;long jump back 1;nop;");
        front.run(1);
        Checks.same("place", front.count(20), 0);
        Checks.same("pause", front.count(22), 3);
        Checks.queue("to the jump", front, 0, 1);
        front.run(1);
        Checks.same("both", front.count(10), 2);
        front.run(40);
        Checks.holds("agrees", front.agrees());
        Checks.same("never beyond", front.times(2), 0);
    }

    private static void loopOfJump() {
        FusionFront front = Checks.made("lanes 4;loop 3;nop;add;jump back 2;");
        front.run(1);
        Checks.queue("first turn", front, 0, 1, 2);
        front.run(1);
        Checks.same("not yet", front.loop(0), FusionFront.NONE);
        Checks.same("no loop", front.count(16), 0);
        Checks.queue("second turn", front, 0, 1, 2);
        Checks.same("place", front.count(20), 0);
        front.run(1);
        Checks.same("loops", front.count(16), 1);
        Checks.same("first", front.loop(0), 0);
        Checks.same("last", front.loop(1), 2);
        Checks.same("next", front.loop(2), 0);
        Checks.same("ops", front.loop(3), 3);
        Checks.queue("empty", front);
        Checks.same("place as it was", front.count(20), 0);
        Checks.bubbles("before the loop", front, 4, 0, 0, 0, 0, 0, 2, 0);
        Checks.same("windows", front.count(13), 2);
        Checks.same("full lanes", front.run(1), 4);
        Checks.same("next is add", front.loop(2), 1);
        Checks.same("from the loop", front.count(17), 4);
        Checks.same("again", front.run(3), 12);
        Checks.bubbles("in the loop", front, 4, 0, 0, 0, 0, 0, 2, 0);
        Checks.same("no more windows", front.count(13), 2);
        Checks.same("redirect", front.redirect(1), 0);
        Checks.same("the loop ends", front.loop(0), FusionFront.NONE);
    }

    private static void loopOfBranch() {
        // Turns: wrong, then twice right (the second one begins the loop), once in the loop, then out of it.
        FusionFront front = Checks.made("lanes 6;loop 2;add;branch back 1 times 4;load;");
        front.run(2);
        Checks.same("wrong", front.count(15), 1);
        front.run(4);
        Checks.same("right, and begins a loop at once", front.run(1), 2);
        Checks.same("loops", front.count(16), 1);
        Checks.same("in the loop, and out of it", front.run(1), 6);
        Checks.same("the loop ends", front.loop(2), FusionFront.NONE);
        Checks.bubbles("behind the loop", front, 6, 0, 0, 28, 0, 0, 4, 0);
        Checks.queue("fetched at once", front, 2);
        Checks.same("load", front.run(1), 1);
        Checks.same("predicted not taken now", front.instruction(1, 7), 0);
        Checks.holds("agrees", front.agrees());
        // The loop ends in lane 1 of 4: cause 7 for the others.
        front = Checks.made("lanes 4;loop 9;add;branch back 1 times 4;load;");
        front.run(8);
        Checks.same("still in it", front.loop(2), 0);
        Checks.same("out of it", front.run(1), 2);
        Checks.same("unused for the end of the loop", front.bubbles(7), 4);
    }

    private static void loopNotBegun() {
        FusionFront front = Checks.made("loop 2;nop;add;jump back 2;");
        front.run(50);
        Checks.same("too many ops", front.count(16), 0);
        front = Checks.made("loop 30;jump ahead 0;nop;jump back 2;");
        front.run(50);
        Checks.same("another jump in it", front.count(16), 0);
        front = Checks.made("loop 30;nop;jump back 1;");
        front.run(20);
        Checks.same("one", front.count(16), 1);
        // The jump is always the last one that was taken, but its target is ahead or it is not the same one.
        front = Checks.made("loop 30;nop;jump ahead 0;nop;jump back 1;");
        front.run(3);
        Checks.same("not the same one", front.count(16), 0);
        front.run(20);
        Checks.same("then the same one", front.count(16), 1);
        front = Checks.made("nop;jump back 1;");
        front.run(20);
        Checks.same("loop is 0", front.count(16), 0);
        front = Checks.made("loop 1;nop;jump back 1;");
        front.run(20);
        Checks.same("two ops for loop 1", front.count(16), 0);
    }

    private static void fusedInLoop() {
        FusionFront front = Checks.made("lanes 2;loop 9;rate 8;fuse add jump;fuse store store;store;store;add;jump back 3;");
        front.run(6);
        Checks.same("loop has begun", front.count(16), 1);
        Checks.same("ops without fusion", front.loop(3), 6);
        Checks.same("both units in two lanes", front.run(1), 4);
        Checks.same("from the start", front.loop(2), 0);
        Checks.same("causes 5", front.bubbles(5), 0);
    }

    private static void stalled() {
        FusionFront front = Checks.made("lanes 2;rate 2;ops 4;repeat 9(nop;);");
        Checks.same("no stall", front.stall(2), 0);
        front.run(2);
        Checks.same("stall is over", front.count(23), 0);
        Checks.same("two wait", front.count(18), 2);
        front.stall(9);
        Checks.same("two more", front.run(1), 2);
        Checks.same("four wait", front.count(18), 4);
        Checks.same("no room", front.run(1), 0);
        Checks.same("cause", front.bubbles(6), 2);
        Checks.same("left", front.stall(0), 7);
        Checks.same("taken again", front.run(1), 2);
        Checks.same("four again", front.count(18), 4);
    }

    private static void emptyProgram() {
        FusionFront front = new FusionFront();
        Checks.same("nothing", front.run(3), 0);
        Checks.bubbles("empty", front, 0, 0, 0, 0, 0, 0, 0, 12);
        Checks.same("no window", front.count(13), 0);
        Checks.same("the end", front.count(20), 0);
    }
}
