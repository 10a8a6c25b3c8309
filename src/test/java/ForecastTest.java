/** Promises 36 to 45: what comes if cycles pass, and that asking changes nothing. */
public final class ForecastTest {
    private static final Class<IllegalArgumentException> NO_ARGUMENT = IllegalArgumentException.class;

    private ForecastTest() {
    }

    public static void main(String[] args) {
        cyclesToMore();
        lanesUnused();
        room();
        best();
        until();
        gain();
        nothingChanges();
        rangesOfCycles();
        Checks.end();
    }

    private static void cyclesToMore() {
        FusionFront front = Checks.made("lanes 2;nop;add;mov;");
        Checks.same("1", front.cyclesTo(1), 2);
        Checks.same("2", front.cyclesTo(2), 2);
        Checks.same("3", front.cyclesTo(3), 3);
        Checks.same("4", front.cyclesTo(4), FusionFront.NONE);
        front.run(2);
        Checks.same("one more", front.cyclesTo(1), 1);
        Checks.same("no two more", front.cyclesTo(2), FusionFront.NONE);
        Checks.throwsOne("0", NO_ARGUMENT, () -> front.cyclesTo(0));
        Checks.throwsOne("1000", NO_ARGUMENT, () -> front.cyclesTo(1000));
        Checks.throwsOne("-1", NO_ARGUMENT, () -> front.cyclesTo(-1));
        // One instruction a cycle from cycle 2 on: 499 in 500 cycles.
        FusionFront slow = Checks.made("lanes 1;loop 9;nop;jump back 1;");
        Checks.same("499 in 500", slow.cyclesTo(499), 500);
        Checks.same("500 in 501", slow.cyclesTo(500), FusionFront.NONE);
        Checks.same("999", slow.cyclesTo(999), FusionFront.NONE);
    }

    private static void lanesUnused() {
        FusionFront front = Checks.made("lanes 4;window 8;load;add;store;div;nop;");
        Checks.same("cause 1 next", front.nextBubbles(1), 4);
        Checks.same("cause 2 next", front.nextBubbles(2), 0);
        Checks.same("cause 1 in 1", front.bubblesIn(1, 1), 4);
        Checks.same("cause 2 in 2", front.bubblesIn(2, 2), 2);
        front.run(1);
        Checks.same("behind a cycle", front.nextBubbles(2), 2);
        Checks.same("only those that come", front.nextBubbles(1), 0);
        Checks.same("only those that come, in 9", front.bubblesIn(9, 1), 0);
        Checks.throwsOne("next 0", NO_ARGUMENT, () -> front.nextBubbles(0));
        Checks.throwsOne("next 9", NO_ARGUMENT, () -> front.nextBubbles(9));
        Checks.throwsOne("in 0", NO_ARGUMENT, () -> front.bubblesIn(1, 0));
        Checks.throwsOne("in 9", NO_ARGUMENT, () -> front.bubblesIn(1, 9));
        Checks.throwsOne("in 0 cycles", NO_ARGUMENT, () -> front.bubblesIn(0, 1));
        Checks.throwsOne("in 501 cycles", NO_ARGUMENT, () -> front.bubblesIn(501, 1));
        FusionFront done = Checks.made("lanes 3;nop;");
        done.run(9);
        Checks.same("the end", done.bubblesIn(500, 8), 1500);
        Checks.same("the end next", done.nextBubbles(8), 3);
        Checks.same("main of what comes", done.mainCauseIn(1), 8);
        FusionFront tie = Checks.made("lanes 2;nop;add;mov;");
        // Cycle 1: 2 for cause 1; cycle 3: 1 and cycle 4: 2 for cause 8.
        Checks.same("cause 1", tie.mainCauseIn(3), 1);
        Checks.same("cause 8", tie.mainCauseIn(4), 8);
        FusionFront full = Checks.made("lanes 1;nop;nop;nop;nop;");
        Checks.same("1 in 1", full.mainCauseIn(1), 1);
        full.run(1);
        Checks.same("none in 4", full.mainCauseIn(4), FusionFront.NONE);
        Checks.same("8 in 5", full.mainCauseIn(5), 8);
        full.run(4);
        FusionFront even = Checks.made("lanes 1;nop;");
        Checks.same("the smallest on a tie", even.mainCauseIn(3), 1);
    }

    private static void room() {
        FusionFront front = Checks.made("lanes 1;rate 1;store;store;nop;nop;nop;");
        Checks.same("none", front.roomNeeded(1), 0);
        Checks.same("store", front.roomNeeded(2), 2);
        Checks.same("and store", front.roomNeeded(3), 3);
        Checks.same("no more", front.roomNeeded(500), 3);
        front.run(3);
        Checks.same("now", front.count(18), 3);
        front.set(6, 8);
        Checks.same("now is the greatest", front.roomNeeded(5), 3);
        Checks.same("a stall", front.stall(9), 0);
        Checks.same("with the stall", front.roomNeeded(9), 6);
    }

    private static void best() {
        FusionFront front = Checks.made("lanes 5;repeat 3(nop;nop;nop;);");
        // Eight nops are in the queue behind cycle 1; four lanes take eight in cycles 2 and 3, five take nine.
        Checks.same("nothing comes", front.bestLanes(1), 1);
        Checks.same("six in one cycle", front.bestLanes(2), 6);
        Checks.same("nine in two cycles", front.bestLanes(3), 5);
        Checks.same("nine in nine cycles", front.bestLanes(10), 1);
        Checks.same("lanes stay", front.count(2), 5);
        FusionFront rates = Checks.made("lanes 6;ops 4;rate 2;loop 9;nop;jump back 1;");
        Checks.same("nothing comes", rates.bestRate(1), 1);
        rates.run(20);
        Checks.same("as many as fit", rates.bestRate(9), 4);
        Checks.same("rate stays", rates.count(6), 2);
        FusionFront loops = Checks.made("lanes 6;rate 8;loop 30;nop;add;mov;jump back 3;");
        Checks.same("loop of four ops", loops.bestLoop(50), 4);
        Checks.same("nothing comes", loops.bestLoop(1), 0);
        Checks.same("loop stays", loops.count(7), 30);
        loops.run(20);
        Checks.same("the loop goes on", loops.bestLoop(50), 0);
    }

    private static void until() {
        FusionFront front = Checks.made("lanes 1;nop;add;jump back 1;mov;");
        Checks.same("nop", front.cyclesUntil(0), 2);
        Checks.same("add", front.cyclesUntil(1), 3);
        Checks.same("mov", front.cyclesUntil(3), FusionFront.NONE);
        front.run(3);
        Checks.same("nop never again", front.cyclesUntil(0), FusionFront.NONE);
        Checks.same("jump", front.cyclesUntil(2), 1);
        Checks.same("add again", front.cyclesUntil(1), 2);
        Checks.throwsOne("-1", IndexOutOfBoundsException.class, () -> front.cyclesUntil(-1));
        Checks.throwsOne("4", IndexOutOfBoundsException.class, () -> front.cyclesUntil(4));
        FusionFront late = Checks.made("lanes 1;loop 30;repeat 2(nop;);branch back 2 times 99;branch back 1 times 99;mov;");
        Checks.same("never within 500", late.cyclesUntil(4), FusionFront.NONE);
        String far = "lanes 1;loop 4;repeat 3(nop;add;branch back 2 times 70;);mov;";
        FusionFront edge = Checks.made(far);
        int at = 0;
        while (edge.times(9) == 0 && at < 900) {
            edge.run(1);
            at++;
        }
        Checks.holds("behind 500 cycles", at > 501 && at < 900);
        FusionFront again = Checks.made(far);
        again.run(at - 501);
        Checks.same("501 cycles", again.cyclesUntil(9), FusionFront.NONE);
        again.run(1);
        Checks.same("500 cycles", again.cyclesUntil(9), 500);
        // 60 instructions in one lane: the last one of the first turn in cycle 61.
        FusionFront line = Checks.made("lanes 1;repeat 6(repeat 9(nop;););nop;nop;nop;nop;nop;add;");
        Checks.same("the 60th", line.cyclesUntil(59), 61);
    }

    private static void gain() {
        FusionFront front = Checks.made("lanes 1;fuse nop nop;add;mov;add;mov;");
        Checks.same("two more in two cycles", front.ruleGain(1, 2, 3), 2);
        Checks.same("nothing in one cycle", front.ruleGain(1, 2, 1), 0);
        Checks.same("no difference in the end", front.ruleGain(1, 2, 50), 0);
        Checks.same("mov and add, not yet", front.ruleGain(2, 1, 2), 0);
        Checks.same("mov and add in cycle 3", front.ruleGain(2, 1, 3), 1);
        Checks.same("other kinds", front.ruleGain(7, 9, 50), 0);
        Checks.same("it stands", front.ruleGain(0, 0, 50), 0);
        Checks.same("one rule", front.count(8), 1);
        front.addRule(1, 2);
        Checks.same("stands now", front.ruleGain(1, 2, 3), 0);
        // A fused pair has more ops than fit in a later lane.
        FusionFront less = Checks.made("lanes 2;add;mov;store;nop;");
        Checks.same("a negative one", less.ruleGain(2, 4, 2), -1);
        FusionFront six = Checks.made("lanes 1;fuse nop nop;fuse nop add;fuse nop mov;fuse nop load;fuse nop cmp;"
                + "fuse nop test;add;mov;add;mov;");
        Checks.same("behind six", six.ruleGain(1, 2, 3), 2);
        Checks.same("six stay", six.count(8), 6);
        Checks.throwsOne("first 8", NO_ARGUMENT, () -> front.ruleGain(8, 0, 1));
        Checks.throwsOne("first -1", NO_ARGUMENT, () -> front.ruleGain(-1, 0, 1));
        Checks.throwsOne("second 10", NO_ARGUMENT, () -> front.ruleGain(0, 10, 1));
        Checks.throwsOne("second -1", NO_ARGUMENT, () -> front.ruleGain(0, -1, 1));
        Checks.throwsOne("0 cycles of a rule that stands", NO_ARGUMENT, () -> front.ruleGain(0, 0, 0));
        Checks.throwsOne("501 cycles", NO_ARGUMENT, () -> front.ruleGain(0, 0, 501));
    }

    private static void nothingChanges() {
        FusionFront front = Checks.made("loop 9;add;branch back 1 times 5;load;jump back 3;");
        front.run(5);
        int[] before = new int[25];
        for (int what = 0; what < 25; what++) {
            before[what] = front.count(what);
        }
        front.cyclesTo(999);
        front.nextBubbles(1);
        front.bubblesIn(500, 4);
        front.roomNeeded(500);
        front.bestLanes(100);
        front.bestRate(100);
        front.bestLoop(100);
        front.cyclesUntil(2);
        front.mainCauseIn(500);
        front.ruleGain(1, 9, 500);
        for (int what = 0; what < 25; what++) {
            Checks.same("unchanged " + what, front.count(what), before[what]);
        }
        FusionFront other = Checks.made("loop 9;add;branch back 1 times 5;load;jump back 3;");
        other.run(5);
        Checks.same("goes on in the same way", front.run(60), other.run(60));
        Checks.same("decoded", front.decoded(0), other.decoded(0));
    }

    private static void rangesOfCycles() {
        FusionFront front = Checks.made("nop;");
        for (int cycles : new int[] {0, -1, 501, Integer.MAX_VALUE, Integer.MIN_VALUE}) {
            Checks.throwsOne("roomNeeded " + cycles, NO_ARGUMENT, () -> front.roomNeeded(cycles));
            Checks.throwsOne("bestLanes " + cycles, NO_ARGUMENT, () -> front.bestLanes(cycles));
            Checks.throwsOne("bestRate " + cycles, NO_ARGUMENT, () -> front.bestRate(cycles));
            Checks.throwsOne("bestLoop " + cycles, NO_ARGUMENT, () -> front.bestLoop(cycles));
            Checks.throwsOne("mainCauseIn " + cycles, NO_ARGUMENT, () -> front.mainCauseIn(cycles));
            Checks.throwsOne("bubblesIn " + cycles, NO_ARGUMENT, () -> front.bubblesIn(cycles, 1));
            Checks.throwsOne("ruleGain " + cycles, NO_ARGUMENT, () -> front.ruleGain(0, 0, cycles));
        }
        Checks.same("500 lanes", front.bestLanes(500), 1);
        Checks.same("500 rate", front.bestRate(500), 1);
        Checks.same("500 loop", front.bestLoop(500), 0);
    }
}
