/** Promises 36 to 45 at the bounds: each check stands behind the sentence that it is about. */
public final class ForecastBoundsTest {
    private static final Class<IndexOutOfBoundsException> NO_INDEX = IndexOutOfBoundsException.class;
    private static final Class<IllegalArgumentException> NO_ARGUMENT = IllegalArgumentException.class;
    private static final int[] FAR = {Integer.MIN_VALUE, -100000, 100000, Integer.MAX_VALUE};
    private static final String[] TEXTS = {
        "",
        "nop;",
        "lanes 3;window 8;queue 3;ops 5;rate 1;store;long add;mov;load;load;jump back 3;",
        "lanes 6;loop 30;rate 2;fuse add mov;add;mov;store;branch back 3 times 5;div;jump back 2;",
        "lanes 6;loop 3;rate 5;nop;branch back 1 times 9;load;jump back 3;",
    };

    private interface Forecast {
        int ask(int value);
    }

    private ForecastBoundsTest() {
    }

    public static void main(String[] args) {
        cyclesToMore();
        causes();
        cycles();
        room();
        bestOnTies();
        bestAtTheEnds();
        bestByTrial();
        until();
        mainCauses();
        gains();
        gainsBehindSix();
        nothingChanges();
        Checks.end();
    }

    private static FusionFront ran(String text, int cycles) {
        FusionFront front = Checks.made(text);
        for (int cycle = 0; cycle < cycles; cycle++) {
            front.run(1);
        }
        return front;
    }

    /** The least and the greatest value are allowed, those around them are refused. */
    private static void range(String what, int least, int greatest, Forecast forecast) {
        forecast.ask(least);
        forecast.ask(greatest);
        Checks.throwsOne(what + " too small", NO_ARGUMENT, () -> forecast.ask(least - 1));
        Checks.throwsOne(what + " too great", NO_ARGUMENT, () -> forecast.ask(greatest + 1));
        Checks.throwsOne(what + " -1", NO_ARGUMENT, () -> forecast.ask(-1));
        for (int far : FAR) {
            Checks.throwsOne(what + " " + far, NO_ARGUMENT, () -> forecast.ask(far));
        }
    }

    private static void cyclesToMore() {
        Checks.sentence("Throws `IllegalArgumentException` if more is out of range");
        FusionFront front = Checks.made("lanes 1;loop 2;nop;jump back 1;");
        range("cyclesTo", 1, 999, front::cyclesTo);
        range("cyclesTo", 1, 999, new FusionFront()::cyclesTo);
        Checks.sentence("Returns the number of cycles; NONE if it is not so within 500 cycles.");
        // Cycle 1 decodes none, each other one decodes one.
        Checks.same("1", front.cyclesTo(1), 2);
        Checks.same("498", front.cyclesTo(498), 499);
        Checks.same("499", front.cyclesTo(499), 500);
        Checks.same("500", front.cyclesTo(500), FusionFront.NONE);
        Checks.same("999", front.cyclesTo(999), FusionFront.NONE);
        front.run(1);
        Checks.same("500 from the second cycle on", front.cyclesTo(500), 500);
        Checks.same("501 from the second cycle on", front.cyclesTo(501), FusionFront.NONE);
        FusionFront two = Checks.made("lanes 2;loop 2;nop;jump back 1;");
        Checks.same("998 with two lanes", two.cyclesTo(998), 500);
        Checks.same("999 with two lanes", two.cyclesTo(999), FusionFront.NONE);
        // Two in each of cycles 2 and 3, then three.
        Checks.same("999 with three lanes", Checks.made("lanes 3;loop 2;nop;jump back 1;").cyclesTo(999), 335);
        Checks.same("nothing comes", new FusionFront().cyclesTo(1), FusionFront.NONE);
        Checks.same("all", Checks.made("nop;nop;").cyclesTo(2), 2);
        Checks.same("more than all", Checks.made("nop;nop;").cyclesTo(3), FusionFront.NONE);
    }

    private static void causes() {
        Checks.sentence("`cause`: 1 to 8");
        FusionFront front = Checks.made("lanes 6;nop;");
        range("nextBubbles", 1, 8, front::nextBubbles);
        Checks.sentence("Throws `IllegalArgumentException` if cycles or cause is out of range");
        range("bubblesIn", 1, 8, cause -> front.bubblesIn(1, cause));
        Checks.throwsOne("both", NO_ARGUMENT, () -> front.bubblesIn(0, 0));
        Checks.sentence("Returns the number of lanes that stay unused for this cause.");
        Checks.same("the first cause", front.nextBubbles(1), 6);
        front.run(1);
        Checks.same("five lanes", front.nextBubbles(8), 5);
        front.run(1);
        for (int cause = 1; cause <= 8; cause++) {
            Checks.same("next " + cause, front.nextBubbles(cause), cause == 8 ? 6 : 0);
            Checks.same("in one " + cause, front.bubblesIn(1, cause), cause == 8 ? 6 : 0);
        }
        front.redirect(0);
        for (int cause = 1; cause <= 8; cause++) {
            Checks.same("in the pause " + cause, front.nextBubbles(cause), cause == 4 ? 6 : 0);
        }
    }

    private static void cycles() {
        Checks.sentence("Throws `IllegalArgumentException` if cycles is out of range");
        for (String text : TEXTS) {
            FusionFront front = ran(text, 3);
            range("bubblesIn " + text, 1, 500, cycles -> front.bubblesIn(cycles, 8));
            range("roomNeeded " + text, 1, 500, front::roomNeeded);
            range("bestLanes " + text, 1, 500, front::bestLanes);
            range("bestRate " + text, 1, 500, front::bestRate);
            range("bestLoop " + text, 1, 500, front::bestLoop);
            range("mainCauseIn " + text, 1, 500, front::mainCauseIn);
            range("ruleGain " + text, 1, 500, cycles -> front.ruleGain(0, 0, cycles));
        }
        Checks.sentence("Returns the number of lanes.");
        FusionFront front = new FusionFront();
        front.set(2, 6);
        Checks.same("1 cycle", front.bubblesIn(1, 8), 6);
        Checks.same("500 cycles", front.bubblesIn(500, 8), 3000);
        Checks.same("another cause", front.bubblesIn(500, 7), 0);
        FusionFront jumps = Checks.made("lanes 4;jump ahead 0;nop;");
        // Cycle 1 is for cause 1, cycle 2 for cause 7 behind the jump, cycle 3 for cause 8 behind nop.
        Checks.same("7 in 1", jumps.bubblesIn(1, 7), 0);
        Checks.same("7 in 2", jumps.bubblesIn(2, 7), 3);
        Checks.same("8 in 2", jumps.bubblesIn(2, 8), 0);
        Checks.same("8 in 3", jumps.bubblesIn(3, 8), 3);
        Checks.same("8 in 500", jumps.bubblesIn(500, 8), 3 + 497 * 4);
        jumps.run(3);
        Checks.same("what was before does not count", jumps.bubblesIn(500, 7), 0);
    }

    private static void room() {
        Checks.sentence("Forecasts the greatest number of ops that wait at once, now or behind one of the next "
                + "cycles.");
        FusionFront front = Checks.made("lanes 1;rate 4;div;nop;");
        Checks.same("none behind 1", front.roomNeeded(1), 0);
        Checks.same("4 behind 2", front.roomNeeded(2), 4);
        Checks.same("4 behind 500", front.roomNeeded(500), 4);
        front.run(2);
        Checks.same("now", front.roomNeeded(1), 4);
        front.run(1);
        Checks.same("1 now", front.roomNeeded(500), 1);
        front.run(1);
        Checks.same("none now", front.roomNeeded(500), 0);
        FusionFront stalled = Checks.made("lanes 6;ops 40;repeat 5(repeat 9(nop;););");
        stalled.stall(99);
        Checks.same("as many as ops tells", stalled.roomNeeded(500), 40);
        Checks.same("behind cycle 2", stalled.roomNeeded(2), 6);
        Checks.same("nothing", new FusionFront().roomNeeded(500), 0);
    }

    private static void bestOnTies() {
        Checks.sentence("Returns the number of lanes, 1 to 6, the smallest one on a tie.");
        for (String text : new String[] {"", "lanes 6;rate 8;loop 30;nop;"}) {
            FusionFront front = Checks.made(text);
            Checks.same("lanes of " + text, front.bestLanes(1), 1);
            Checks.same("lanes in 500 of " + text, front.bestLanes(500), 1);
            Checks.sentence("Returns the setting, 1 to 8, the smallest one on a tie.");
            Checks.same("rate of " + text, front.bestRate(1), 1);
            Checks.same("rate in 500 of " + text, front.bestRate(500), 1);
            Checks.sentence("Returns the setting, 0 to 30, the smallest one on a tie.");
            Checks.same("loop of " + text, front.bestLoop(1), 0);
            Checks.same("loop in 500 of " + text, front.bestLoop(500), 0);
        }
    }

    private static void bestAtTheEnds() {
        Checks.sentence("Finds the number of lanes with which most instructions would be decoded in the next cycles.");
        for (int many = 1; many <= 8; many++) {
            FusionFront front = ran("lanes 3;" + "nop;".repeat(many), 1);
            Checks.same("lanes for " + many, front.bestLanes(1), Math.min(many, 6));
            Checks.same("lanes stay", front.count(2), 3);
        }
        Checks.sentence("Finds the setting rate with which most instructions would be decoded in the next cycles.");
        // Two turns of the loop a cycle have eight ops; with less than that, what waits comes to 40.
        FusionFront rates = Checks.made("lanes 6;loop 4;ops 40;rate 1;nop;store;jump back 2;");
        Checks.same("rate for 8 ops", rates.bestRate(500), 8);
        Checks.same("rate stays", rates.count(6), 1);
        Checks.same("rate for 3 ops", Checks.made("lanes 2;loop 4;ops 4;rate 8;nop;nop;jump back 2;").bestRate(500), 2);
        Checks.same("rate for 1 op", Checks.made("lanes 1;loop 4;ops 4;rate 8;nop;jump back 1;").bestRate(500), 1);
        Checks.sentence("Finds the setting loop with which most instructions would be decoded in the next cycles.");
        // The long one makes each turn longer, unless it is replayed.
        String most = "long nop;repeat 4(repeat 7(nop;););jump back 29;";
        FusionFront loops = Checks.made("lanes 6;rate 8;" + most);
        Checks.same("loop for 30 ops", loops.bestLoop(200), 30);
        Checks.same("loop stays", loops.count(7), 0);
        Checks.same("loop for 31 ops", Checks.made("lanes 6;rate 8;nop;" + most.replace("29", "30")).bestLoop(200), 0);
        Checks.same("loop for 2 ops", Checks.made("lanes 6;rate 8;loop 30;long nop;jump back 1;").bestLoop(200), 2);
    }

    /** The best value is the smallest one of those that decode most when they are set and the cycles pass. */
    private static void bestByTrial() {
        int[][] rows = {{2, 1, 6}, {6, 1, 8}, {7, 0, 30}};
        for (String text : TEXTS) {
            for (int cycles : new int[] {1, 2, 9, 60, 500}) {
                FusionFront front = ran(text, 4);
                int[] answers = {front.bestLanes(cycles), front.bestRate(cycles), front.bestLoop(cycles)};
                for (int index = 0; index < 3; index++) {
                    int best = -1;
                    int most = -1;
                    for (int value = rows[index][1]; value <= rows[index][2]; value++) {
                        FusionFront trial = ran(text, 4);
                        trial.set(rows[index][0], value);
                        int many = trial.run(cycles);
                        best = many > most ? value : best;
                        most = Math.max(many, most);
                    }
                    Checks.same(text + " best of " + rows[index][0] + " in " + cycles, answers[index], best);
                }
            }
        }
    }

    private static void until() {
        Checks.sentence("Returns the number of cycles; NONE if it is not decoded within 500 cycles.");
        FusionFront front = Checks.made("lanes 1;nop;add;nop;");
        Checks.same("the first one", front.cyclesUntil(0), 2);
        Checks.same("the last one", front.cyclesUntil(2), 4);
        front.run(3);
        Checks.same("in the next cycle", front.cyclesUntil(2), 1);
        Checks.same("not once more", front.cyclesUntil(1), FusionFront.NONE);
        front.run(1);
        Checks.same("nothing comes", front.cyclesUntil(2), FusionFront.NONE);
        // A hundred turns of six ops, and one op is taken a cycle: the nop is decoded far behind cycle 500.
        String text = "lanes 1;loop 6;ops 4;rate 1;div;add;branch back 2 times 99;nop;";
        FusionFront slow = Checks.made(text);
        int at = slow.runTo(301) + slow.runTo(301);
        Checks.same("the nop", slow.decoded(0), 3);
        Checks.same("only now", slow.times(3), 1);
        Checks.holds("behind cycle 501", at > 501 && at < 1000);
        FusionFront again = Checks.made(text);
        again.run(at - 501);
        Checks.same("501 cycles", again.cyclesUntil(3), FusionFront.NONE);
        again.run(1);
        Checks.same("500 cycles", again.cyclesUntil(3), 500);
        again.run(1);
        Checks.same("499 cycles", again.cyclesUntil(3), 499);
        Checks.sentence("Throws `IndexOutOfBoundsException` if there is no such instruction");
        Checks.throwsOne("-1", NO_INDEX, () -> front.cyclesUntil(-1));
        Checks.throwsOne("3 of 3", NO_INDEX, () -> front.cyclesUntil(3));
        Checks.throwsOne("0 of none", NO_INDEX, () -> new FusionFront().cyclesUntil(0));
        for (int far : FAR) {
            Checks.throwsOne("number " + far, NO_INDEX, () -> front.cyclesUntil(far));
        }
        Checks.same("59 of 60", Checks.made("lanes 1;repeat 6(repeat 9(nop;););repeat 6(nop;);").cyclesUntil(59), 61);
    }

    private static void mainCauses() {
        Checks.sentence("Returns the cause, the smallest one on a tie; NONE if no lane stays unused in them.");
        FusionFront full = ran("lanes 1;nop;nop;nop;", 1);
        for (int cycles = 1; cycles <= 3; cycles++) {
            Checks.same("all lanes are used in " + cycles, full.mainCauseIn(cycles), FusionFront.NONE);
        }
        Checks.same("one is not", full.mainCauseIn(4), 8);
        // Cycle 1 is for cause 1, cycle 2 uses all lanes, each other one is for cause 8.
        FusionFront tie = Checks.made("lanes 2;nop;nop;");
        Checks.same("2 for 1", tie.mainCauseIn(1), 1);
        Checks.same("2 for 1 and 2 for 8", tie.mainCauseIn(3), 1);
        Checks.same("2 for 1 and 4 for 8", tie.mainCauseIn(4), 8);
        tie.run(1);
        Checks.same("what was before does not count", tie.mainCauseIn(2), 8);
        Checks.same("none of the next one", tie.mainCauseIn(1), FusionFront.NONE);
        Checks.same("500", new FusionFront().mainCauseIn(500), 8);
    }

    private static void gains() {
        Checks.sentence("Throws `IllegalArgumentException` if first, second or cycles is out of range");
        FusionFront front = Checks.made("lanes 1;fuse nop nop;add;add;add;");
        range("first", 0, 7, first -> front.ruleGain(first, 9, 500));
        range("second", 0, 9, second -> front.ruleGain(7, second, 500));
        range("cycles", 1, 500, cycles -> front.ruleGain(1, 1, cycles));
        range("cycles of a rule that stands", 1, 500, cycles -> front.ruleGain(0, 0, cycles));
        Checks.sentence("how many more instructions would be decoded in the next cycles if it was added now (perhaps "
                + "a negative number).");
        Checks.same("nothing in 1", front.ruleGain(1, 1, 1), 0);
        Checks.same("one more in 2", front.ruleGain(1, 1, 2), 1);
        Checks.same("one more in 3", front.ruleGain(1, 1, 3), 1);
        Checks.same("all the same in 4", front.ruleGain(1, 1, 4), 0);
        // A pair of store and store has 3 ops, which are too many for lane 1; one op is too many for no lane.
        FusionFront less = Checks.made("lanes 2;add;mov;store;nop;");
        Checks.same("one less in 2", less.ruleGain(2, 4, 2), -1);
        Checks.sentence("Returns the number of instructions; 0 if there is such a rule already");
        Checks.same("it stands", Checks.made("lanes 1;fuse add add;add;add;add;").ruleGain(1, 1, 2), 0);
        Checks.same("a rule of other kinds stands", Checks.made("lanes 1;fuse add nop;add;add;").ruleGain(1, 1, 2), 1);
        Checks.same("the empty program", new FusionFront().ruleGain(7, 9, 500), 0);
    }

    private static void gainsBehindSix() {
        Checks.sentence("(it would be added also behind 6 rules).");
        String five = "lanes 1;fuse nop nop;fuse nop add;fuse nop mov;fuse nop load;fuse nop cmp;";
        for (String text : new String[] {five, five + "fuse nop test;"}) {
            FusionFront front = Checks.made(text + "add;add;add;");
            int rules = front.count(8);
            Checks.same("behind " + rules, front.ruleGain(1, 1, 2), 1);
            Checks.same("it was not added", front.count(8), rules);
            Checks.same("again behind " + rules, front.ruleGain(1, 1, 2), 1);
            Checks.same("no pairs", front.fusable(), 0);
        }
    }

    private static void nothingChanges() {
        Checks.sentence("what comes if cycles pass and nothing else happens; nothing changes.");
        for (String text : TEXTS) {
            for (int cycles = 0; cycles <= 8; cycles++) {
                FusionFront front = ran(text, cycles);
                FusionFront twin = ran(text, cycles);
                front.cyclesTo(999);
                front.nextBubbles(1);
                front.bubblesIn(500, 8);
                front.roomNeeded(500);
                front.bestLanes(500);
                front.bestRate(500);
                front.bestLoop(500);
                front.mainCauseIn(500);
                front.ruleGain(1, 2, 500);
                if (front.count(0) > 0) {
                    front.cyclesUntil(0);
                }
                Twins.whole(text + " behind " + cycles, front, twin);
                Checks.same(text + " goes on", front.run(9), twin.run(9));
                Twins.whole(text + " behind 9 more", front, twin);
            }
        }
    }
}
