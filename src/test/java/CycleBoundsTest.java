/** Sections 2 and 3 at the bounds: each check stands behind the sentence that it is about. */
public final class CycleBoundsTest {
    private CycleBoundsTest() {
    }

    public static void main(String[] args) {
        addresses();
        lengthsAndOps();
        turns();
        predictions();
        atFirst();
        windowSizes();
        taking();
        pauses();
        emptyQueue();
        pairsInTheQueue();
        pairsInWindows();
        longPairs();
        opsOfPairs();
        stoppedLanes();
        laterLanes();
        fullOps();
        endsOfLoops();
        wrongPredictions();
        rightPredictions();
        opsOfLoops();
        sameOneBefore();
        otherJumps();
        beginningLoops();
        nothingFetched();
        lengthPause();
        windowsRead();
        theEnd();
        fullQueue();
        lastBytes();
        longMarked();
        takenMarked();
        placeIsSet();
        nextByNumber();
        Checks.end();
    }

    private static FusionFront ran(String text, int cycles) {
        FusionFront front = Checks.made(text);
        for (int cycle = 0; cycle < cycles; cycle++) {
            front.run(1);
        }
        return front;
    }

    private static void addresses() {
        Checks.sentence("The first instruction has the address 0, each other one that behind the last byte of the "
                + "one before.");
        FusionFront front = Checks.made("long nop;store;nop;nop;");
        int[] due = {0, 2, 6, 7};
        for (int number = 0; number < 4; number++) {
            Checks.same("address " + number, front.instruction(number, 1), due[number]);
        }
        Checks.same("bytes", front.count(1), 8);
        front = Checks.made("repeat 6(repeat 9(long store;););repeat 6(long store;);");
        Checks.same("the last of 60", front.instruction(59, 1), 295);
        Checks.same("bytes of 60", front.count(1), 300);
        Checks.sentence("\"long\" makes an instruction one byte longer.");
        Checks.same("shortest", Checks.made("long nop;").instruction(0, 2), 2);
        Checks.same("longest", front.instruction(0, 2), 5);
    }

    private static void lengthsAndOps() {
        Checks.sentence("Their lengths in bytes are 1, 2, 3, 4, 4, 3, 2, 3, 2, 2; their ops are 1, 1, 1, 1, 2, 1, 1, 4, "
                + "1, 1.");
        String kinds = "nop;add;mov;load;store;cmp;test;div;jump ahead 0;branch ahead 0 times 1;";
        FusionFront front = Checks.made(kinds + "long " + kinds.replace(";", ";long ") + "nop;");
        int[] lengths = {1, 2, 3, 4, 4, 3, 2, 3, 2, 2};
        int[] ops = {1, 1, 1, 1, 2, 1, 1, 4, 1, 1};
        for (int number = 0; number < 20; number++) {
            Checks.same("kind of " + number, front.instruction(number, 0), number % 10);
            Checks.same("length of " + number, front.instruction(number, 2), lengths[number % 10] + number / 10);
            Checks.same("ops of " + number, front.instruction(number, 3), ops[number % 10]);
        }
        Checks.same("one of each kind", front.ofKind(9, false), 2);
    }

    private static void turns() {
        Checks.sentence("A branch goes to its target as often as times tells, then once to the next instruction, "
                + "and so on.");
        FusionFront once = Checks.made("nop;branch back 1 times 1;jump back 2;");
        int[] due = {0, 1, 0, 1, 2, 0, 1, 0, 1, 2, 0};
        for (int index = 0; index < due.length; index++) {
            Checks.same("once, plain " + index, once.plain(index), due[index]);
        }
        once.runTo(11);
        for (int index = 0; index < due.length; index++) {
            Checks.same("once, decoded " + index, once.decoded(once.count(10) - 1 - index), due[index]);
        }
        FusionFront most = Checks.made("nop;branch back 1 times 99;add;");
        Checks.same("the 99th time", most.plain(198), 0);
        Checks.same("the branch", most.plain(199), 1);
        Checks.same("then the next one", most.plain(200), 2);
        Checks.same("the end", most.plain(201), FusionFront.NONE);
        most.run(500);
        Checks.same("100 branches", most.times(1), 100);
        Checks.same("one add", most.times(2), 1);
        Checks.same("nothing more", most.count(10), 201);
    }

    private static void predictions() {
        Checks.sentence("it is predicted not taken before it was decoded.");
        FusionFront front = Checks.made("lanes 1;loop 2;nop;branch back 1 times 4;add;");
        Checks.same("at first", front.instruction(1, 7), 0);
        front.run(2);
        Checks.same("in the queue, not decoded", front.instruction(1, 7), 0);
        front.run(1);
        Checks.same("decoded", front.instruction(1, 7), 1);
        Checks.same("the first one was wrong", front.count(15), 1);
        Checks.sentence("A branch is predicted to do what it did when it was decoded last, also from a loop;");
        // Taken in cycles 3 (wrong), 9 (the loop begins), 11, 13; not taken in cycle 15.
        front.run(6);
        Checks.same("the loop has begun", front.count(16), 1);
        front.run(5);
        Checks.same("taken from the loop", front.instruction(1, 7), 1);
        front.run(1);
        Checks.same("not taken from the loop", front.instruction(1, 7), 0);
        Checks.same("that was no wrong prediction", front.count(15), 1);
        Checks.same("all from the loop", front.count(17), 6);
        Checks.sentence("A jump is predicted taken.");
        Checks.same("at first", Checks.made("jump ahead 0;").instruction(0, 7), 1);
        Checks.same("to the end", Checks.made("jump ahead 9;").instruction(0, 7), 1);
        Checks.same("decoded", ran("jump ahead 0;nop;", 9).instruction(0, 7), 1);
    }

    private static void atFirst() {
        Checks.sentence("At first the place is instruction 0, nothing has been read, and nothing waits.");
        FusionFront front = Checks.made("window 8;load;load;load;");
        Checks.same("place", front.count(20), 0);
        Checks.same("windows", front.count(13), 0);
        Checks.same("ops", front.count(18), 0);
        Checks.same("queue", front.count(19), 0);
        Checks.fails("cut", front.isCut());
        front.run(1);
        Checks.same("the first window", front.count(13), 1);
        FusionFront empty = new FusionFront();
        Checks.same("the place is the end", empty.count(20), 0);
        empty.run(1);
        Checks.bubbles("empty", empty, 0, 0, 0, 0, 0, 0, 0, 4);
        Checks.same("nothing is read", empty.count(13), 0);
    }

    private static void windowSizes() {
        Checks.sentence("It reads windows: pieces of the program of as many bytes as window tells, the first one "
                + "from address 0 on.");
        for (int window = 8; window <= 32; window *= 2) {
            FusionFront front = ran("queue 20;window " + window + ";repeat 4(repeat 5(load;););", 1);
            Checks.same("loads of window " + window, front.count(19), window / 4);
            Checks.same("one window of " + window, front.count(13), 1);
            Checks.fails("nothing is cut with " + window, front.isCut());
        }
    }

    private static void taking() {
        Checks.sentence("Otherwise as many ops as rate tells, but at most all that wait, are taken away.");
        int[] left = {0, 1, 0, 0, 0, 0, 0, 0, 0};
        for (int rate = 1; rate <= 8; rate++) {
            FusionFront front = ran("lanes 1;rate " + rate + ";store;", 2);
            Checks.same("store waits", front.count(18), 2);
            front.run(1);
            Checks.same("rate " + rate, front.count(18), left[rate]);
            front.run(1);
            Checks.same("nothing waits", front.count(18), 0);
        }
        FusionFront div = ran("lanes 1;rate 3;div;", 3);
        Checks.same("3 of 4", div.count(18), 1);
        div.run(1);
        Checks.same("1 of 1", div.count(18), 0);
        Checks.sentence("If the front end is stalled, it is so for one cycle less.");
        FusionFront front = ran("lanes 1;rate 1;store;", 2);
        front.stall(1);
        front.run(1);
        Checks.same("stalled", front.count(18), 2);
        Checks.same("no longer", front.count(23), 0);
        front.run(1);
        Checks.same("taken", front.count(18), 1);
        front = ran("lanes 1;rate 8;store;", 2);
        front.stall(99);
        front.run(98);
        Checks.same("one cycle is left", front.count(23), 1);
        Checks.same("98 cycles", front.count(18), 2);
        front.run(1);
        Checks.same("99 cycles", front.count(18), 2);
        Checks.same("none is left", front.count(23), 0);
        front.run(1);
        Checks.same("100 cycles", front.count(18), 0);
    }

    private static void pauses() {
        Checks.sentence("If there is a pause, it becomes one cycle shorter, and all lanes are unused, for cause 4.");
        FusionFront front = Checks.made("lanes 3;nop;nop;nop;nop;");
        front.redirect(0);
        for (int cycle = 1; cycle <= 4; cycle++) {
            Checks.same("nothing in cycle " + cycle, front.run(1), 0);
            Checks.same("pause behind cycle " + cycle, front.count(21), 4 - cycle);
            Checks.bubbles("cycle " + cycle, front, 0, 0, 0, 3 * cycle, 0, 0, 0, 0);
        }
        Checks.same("all lanes are used", front.run(1), 3);
        Checks.bubbles("behind it", front, 0, 0, 0, 12, 0, 0, 0, 0);
        Checks.same("no pause", front.count(21), 0);
        FusionFront one = Checks.made("lanes 1;nop;");
        one.redirect(0);
        one.run(4);
        Checks.bubbles("one lane", one, 0, 0, 0, 4, 0, 0, 0, 0);
        FusionFront six = Checks.made("lanes 6;nop;");
        six.redirect(0);
        six.run(4);
        Checks.bubbles("six lanes", six, 0, 0, 0, 24, 0, 0, 0, 0);
    }

    private static void emptyQueue() {
        Checks.sentence("If the queue is empty (and no loop is replayed), decoding stops: for cause 8 if the place "
                + "is the end, otherwise for cause 3 if there is a length pause, otherwise for cause 2 if the "
                + "place's instruction is cut, otherwise for cause 1.");
        Checks.bubbles("nothing yet", ran("lanes 3;nop;", 1), 3, 0, 0, 0, 0, 0, 0, 0);
        Checks.bubbles("the end", ran("lanes 3;nop;", 2), 3, 0, 0, 0, 0, 0, 0, 2);
        // The end comes before the length pause.
        FusionFront end = ran("lanes 2;long nop;", 2);
        Checks.same("there is a length pause", end.count(22), 3);
        Checks.bubbles("the end and a length pause", end, 2, 0, 0, 0, 0, 0, 0, 1);
        FusionFront pause = ran("lanes 1;long nop;nop;", 3);
        Checks.bubbles("length pause of 2", pause, 1, 0, 1, 0, 0, 0, 0, 0);
        pause.run(1);
        Checks.bubbles("length pause of 1", pause, 1, 0, 2, 0, 0, 0, 0, 0);
        pause.run(1);
        Checks.bubbles("length pause of 0", pause, 2, 0, 2, 0, 0, 0, 0, 0);
        Checks.same("then it is there", pause.run(1), 1);
        FusionFront cut = ran("window 8;lanes 3;mov;mov;mov;", 2);
        Checks.bubbles("cut", cut, 3, 1, 0, 0, 0, 0, 0, 0);
        FusionFront whole = ran("window 8;lanes 3;mov;mov;add;", 2);
        Checks.bubbles("not cut", whole, 3, 0, 0, 0, 0, 0, 0, 0);
    }

    private static void pairsInTheQueue() {
        Checks.sentence("It is fused with the next instruction by number if that is the next one of the queue (of "
                + "the loop),");
        // Addresses 0, 3, 6: the load is cut, so that it is one cycle behind.
        FusionFront late = ran("window 8;lanes 2;fuse mov load;mov;mov;load;", 3);
        Checks.same("the load was not in the queue", late.count(12), 0);
        Checks.same("all decoded", late.count(10), 3);
        FusionFront there = ran("window 8;lanes 1;fuse mov load;mov;mov;load;", 3);
        Checks.same("the load is in the queue", there.count(12), 1);
        Checks.same("all decoded, two in a lane", there.count(10), 3);
        FusionFront full = ran("lanes 2;queue 2;fuse add mov;nop;add;mov;", 3);
        Checks.same("the queue ends behind add", full.count(12), 0);
        full = ran("lanes 2;queue 3;fuse add mov;nop;add;mov;", 2);
        Checks.same("the queue ends behind mov", full.count(12), 1);
        Checks.same("three in two lanes", full.count(10), 3);
        // Addresses 5 and 7: the jump is cut, so that add is alone in the queue behind a pair that was fused.
        FusionFront alone = Checks.made("window 8;lanes 2;ops 4;rate 1;fuse add jump;repeat 5(nop;);add;jump back 1;");
        alone.run(7);
        alone.stall(4);
        alone.run(8);
        Checks.queue("add alone", alone, 5);
        int before = alone.count(12);
        Checks.holds("pairs were fused", before > 2);
        Checks.same("add is decoded alone", alone.run(1), 1);
        Checks.same("no pair", alone.count(12), before);
        // The next one of the queue is not the next one by number.
        FusionFront other = ran("fuse mov add;mov;jump ahead 1;nop;add;", 9);
        Checks.same("jump between them", other.count(12), 0);
        other = ran("lanes 1;fuse add branch;fuse nop nop;nop;branch back 1 times 1;nop;", 20);
        Checks.same("nop and nop of two turns", other.count(12), 0);
        // In a loop: the last one and the one that follows by number are no pair, nor the last and the first one.
        FusionFront loop = ran("lanes 2;loop 9;fuse nop jump;fuse nop nop;nop;nop;jump back 2;nop;", 9);
        Checks.same("the loop has begun", loop.count(16), 1);
        int units = loop.count(12);
        Checks.same("nop with nop, then jump alone", loop.run(1), 3);
        Checks.same("one unit a turn", loop.count(12), units + 1);
    }

    private static void pairsInWindows() {
        Checks.sentence("both have their first byte in the same window,");
        // Addresses 0, 1, 5, 7: the second one begins with the last byte of the window.
        FusionFront front = Checks.made("window 8;lanes 1;fuse add load;nop;load;add;load;");
        Checks.holds("5 and 7", front.fuses(2));
        front.run(4);
        Checks.same("fused", front.count(12), 1);
        Checks.same("all decoded", front.count(10), 4);
        // Addresses 0, 1, 2, 6, 8: the second one begins with the first byte of the next window.
        front = Checks.made("window 8;lanes 1;fuse add load;nop;nop;load;add;load;");
        Checks.fails("6 and 8", front.fuses(3));
        front.run(9);
        Checks.same("not fused", front.count(12), 0);
        Checks.same("all decoded one by one", front.count(10), 5);
        // Addresses 0, 4, 8, 10.
        front = Checks.made("window 8;lanes 1;fuse add load;load;load;add;load;");
        Checks.holds("8 and 10", front.fuses(2));
        front.run(9);
        Checks.same("fused in the second window", front.count(12), 1);
        // Addresses 6 and 8 are in one window of 16, 14 and 16 are not; in one of 32 they are, 30 and 32 are not.
        String adds = "repeat 3(repeat 6(add;););";
        int[][] rows = {{8, 3, 7, 11, 15}, {16, 7, 15}, {32, 15}};
        for (int[] row : rows) {
            front = Checks.made("window " + row[0] + ";fuse add add;" + adds);
            for (int number = 0; number < 18; number++) {
                boolean due = number < 17;
                for (int index = 1; index < row.length; index++) {
                    due = due && row[index] != number;
                }
                Checks.same("window " + row[0] + " fuses " + number, front.fuses(number) ? 1 : 0, due ? 1 : 0);
            }
        }
    }

    private static void longPairs() {
        Checks.sentence("and neither is long.");
        String[] texts = {"add;mov;", "long add;mov;", "add;long mov;", "long add;long mov;"};
        for (int index = 0; index < texts.length; index++) {
            FusionFront front = Checks.made("fuse add mov;" + texts[index]);
            Checks.same(texts[index], front.fuses(0) ? 1 : 0, index == 0 ? 1 : 0);
            front.run(9);
            Checks.same(texts[index] + " decoded", front.count(12), index == 0 ? 1 : 0);
        }
    }

    private static void opsOfPairs() {
        Checks.sentence("The ops of a fused unit are the sum of the ops, less 1.");
        String[] texts = {"fuse add add;add;add;", "fuse store add;store;add;", "fuse store store;store;store;",
            "fuse div store;div;store;", "fuse div div;div;div;"};
        int[] due = {1, 2, 3, 5, 7};
        for (int index = 0; index < texts.length; index++) {
            FusionFront front = ran("lanes 1;" + texts[index], 2);
            Checks.same(texts[index] + " ops", front.count(11), due[index]);
            Checks.same(texts[index] + " wait", front.count(18), due[index]);
            Checks.same(texts[index] + " decoded", front.count(10), 2);
        }
    }

    private static void stoppedLanes() {
        Checks.sentence("When decoding stops at a lane, this lane and all lanes behind it are unused, for the cause of "
                + "the stop.");
        for (int lanes = 1; lanes <= 6; lanes++) {
            for (int many = 0; many <= 7; many++) {
                FusionFront front = ran("lanes " + lanes + ";" + "nop;".repeat(many), 1);
                int unused = Math.max(lanes - many, 0);
                Checks.same(many + " for " + lanes, front.nextBubbles(8), unused);
                Checks.same(many + " in " + lanes, front.run(1), lanes - unused);
            }
        }
    }

    private static void laterLanes() {
        Checks.sentence("If the lane is not lane 0, no loop is replayed, and the unit has more than 1 op, decoding "
                + "stops for cause 5.");
        Checks.same("2 ops in lane 0", ran("lanes 2;store;nop;", 2).count(10), 2);
        Checks.same("4 ops in lane 0", ran("lanes 2;div;nop;", 2).count(10), 2);
        FusionFront front = ran("lanes 6;nop;store;nop;", 2);
        Checks.same("2 ops in lane 1", front.count(10), 1);
        Checks.bubbles("2 ops in lane 1", front, 6, 0, 0, 0, 5, 0, 0, 0);
        Checks.same("1 op in lane 1", ran("lanes 2;nop;load;", 2).count(10), 2);
        front = ran("lanes 6;nop;nop;nop;nop;nop;store;", 2);
        Checks.same("2 ops in lane 5", front.count(10), 5);
        Checks.bubbles("2 ops in lane 5", front, 6, 0, 0, 0, 1, 0, 0, 0);
        Checks.same("a pair of 1 op in lane 1", ran("lanes 2;fuse add mov;nop;add;mov;", 2).count(10), 3);
        Checks.same("a pair of 2 ops in lane 1", ran("lanes 2;fuse add store;nop;add;store;", 2).count(10), 1);
        Checks.same("a pair of 2 ops in lane 0", ran("lanes 2;fuse add store;add;store;nop;", 2).count(10), 3);
        // In a loop a unit of 2 ops is decoded in lanes 1 and 4.
        front = ran("lanes 6;loop 4;rate 8;ops 40;nop;store;jump back 2;", 9);
        Checks.same("the loop has begun", front.count(16), 1);
        int unused = front.bubbles(5);
        Checks.same("two turns in a cycle", front.run(1), 6);
        Checks.same("no lane for cause 5", front.bubbles(5), unused);
        // Both causes would apply: 5 is asked first.
        front = ran("lanes 2;ops 4;nop;div;", 2);
        Checks.bubbles("5 before 6", front, 2, 0, 0, 0, 1, 0, 0, 0);
    }

    private static void fullOps() {
        Checks.sentence("If the ops that wait and those of the unit are more than ops tells, decoding stops for "
                + "cause 6.");
        Checks.same("0 and 4 of 4", ran("lanes 1;ops 4;div;", 2).count(10), 1);
        for (int ops = 4; ops <= 6; ops++) {
            FusionFront front = ran("lanes 1;ops " + ops + ";nop;div;", 2);
            front.stall(1);
            Checks.same("1 and 4 of " + ops, front.run(1), ops >= 5 ? 1 : 0);
            Checks.same("cause of " + ops, front.bubbles(6), ops >= 5 ? 0 : 1);
            Checks.same("waits of " + ops, front.count(18), ops >= 5 ? 5 : 1);
        }
        FusionFront front = ran("lanes 6;ops 4;rate 1;repeat 9(nop;);", 2);
        Checks.same("four lanes of six", front.count(10), 4);
        Checks.bubbles("two are left", front, 6, 0, 0, 0, 0, 2, 0, 0);
        Checks.same("one is taken, one is decoded", front.run(1), 1);
        Checks.bubbles("five are left", front, 6, 0, 0, 0, 0, 7, 0, 0);
        FusionFront most = Checks.made("lanes 6;ops 40;repeat 5(repeat 9(nop;););");
        most.stall(99);
        Checks.same("40 of 40", most.run(50), 40);
        Checks.same("40 wait", most.count(18), 40);
        // In a loop, too.
        FusionFront loop = ran("lanes 2;loop 2;ops 4;rate 1;nop;jump back 1;", 20);
        Checks.holds("in a loop", loop.loop(0) == 0);
        Checks.same("one op is taken", loop.run(1), 1);
        Checks.same("4 wait", loop.count(18), 4);
    }

    private static void endsOfLoops() {
        Checks.sentence("If a loop is replayed: if it is taken, the loop goes on with its first instruction, in the "
                + "next lane.");
        // The branch: wrong in cycle 2, the loop begins in cycle 7; it has two instructions.
        FusionFront front = ran("lanes 3;loop 2;add;branch back 1 times 9;load;", 7);
        Checks.same("begun", front.count(16), 1);
        Checks.same("add, branch, add", front.run(1), 3);
        Checks.same("branch is next", front.loop(2), 1);
        Checks.same("branch, add, branch", front.run(1), 3);
        Checks.same("the first one is next, in the next cycle", front.loop(2), 0);
        Checks.same("add is the first one again", front.run(1), 3);
        Checks.same("branch is next again", front.loop(2), 1);
        Checks.sentence("Otherwise the loop ends, the place becomes the next instruction, and decoding stops at the "
                + "next lane for cause 7.");
        for (int lanes = 2; lanes <= 6; lanes++) {
            // Three turns in the loop: six instructions, the last one not taken.
            FusionFront end = ran("lanes " + lanes + ";loop 2;add;branch back 1 times 4;load;", 7);
            int before = end.bubbles(7);
            Checks.same("begun with " + lanes, end.count(16), 1);
            while (end.loop(0) != FusionFront.NONE && end.count(9) < 20) {
                end.run(1);
            }
            int due = (lanes - 6 % lanes) % lanes;
            Checks.same("cycles with " + lanes, end.count(9), 7 + (6 + lanes - 1) / lanes);
            Checks.same("unused with " + lanes, end.bubbles(7) - before, due);
            Checks.same("load is fetched at once", end.queueAt(0), 2);
        }
        FusionFront last = ran("lanes 6;loop 2;add;branch back 1 times 4;", 8);
        Checks.same("the loop has ended", last.loop(0), FusionFront.NONE);
        Checks.same("the place is the end", last.count(20), 2);
        last.run(1);
        Checks.same("nothing is left", last.bubbles(8), 6);
    }

    private static void wrongPredictions() {
        Checks.sentence("the queue becomes empty, the place becomes the instruction to which it goes, there is a "
                + "pause of 4 cycles, and decoding stops at the next lane for cause 4.");
        for (int lanes = 1; lanes <= 6; lanes++) {
            FusionFront front = ran("lanes " + lanes + ";branch ahead 0 times 1;nop;nop;", 2);
            Checks.bubbles("lane 0 of " + lanes, front, lanes, 0, 0, lanes - 1, 0, 0, 0, 0);
            Checks.same("pause", front.count(21), 4);
            Checks.same("wrong", front.count(15), 1);
            front.run(4);
            Checks.bubbles("behind the pause", front, lanes, 0, 0, 5 * lanes - 1, 0, 0, 0, 0);
            Checks.same("then it goes on", front.run(1), Math.min(lanes, 2));
        }
        FusionFront last = ran("lanes 3;nop;nop;branch ahead 0 times 1;nop;", 2);
        Checks.bubbles("in the last lane", last, 3, 0, 0, 0, 0, 0, 0, 0);
        Checks.same("pause behind the last lane", last.count(21), 4);
        FusionFront end = ran("lanes 1;branch ahead 9 times 1;nop;", 2);
        Checks.same("the queue is empty", end.count(19), 0);
        Checks.same("the place is the end", end.count(20), 2);
        end.run(5);
        Checks.bubbles("to the end", end, 1, 0, 0, 4, 0, 0, 0, 1);
        Checks.same("nothing is fetched there", end.count(13), 1);
        // Predicted taken, but it goes on; there is nothing behind it.
        FusionFront on = ran("lanes 2;nop;branch back 1 times 1;", 7);
        Checks.same("wrong twice", on.count(15), 2);
        Checks.same("place behind the last one", on.count(20), 2);
        Checks.same("queue behind the last one", on.count(19), 0);
        Checks.sentence("(A cut and a length pause end.)");
        // Addresses 0, 2, 6, 10: the second load is cut; the target's window is the next one.
        FusionFront cut = ran("window 8;lanes 1;branch ahead 2 times 1;load;load;nop;", 1);
        Checks.holds("cut", cut.isCut());
        cut.run(1);
        Checks.fails("not cut any more", cut.isCut());
        Checks.queue("the target", cut, 3);
        // The target is in the window that was read: the cut one is cut once more, in a window that is read anew.
        cut = ran("window 8;lanes 1;branch ahead 0 times 1;load;load;nop;", 2);
        Checks.queue("the first load alone", cut, 1);
        Checks.same("cut twice", cut.count(14), 2);
        FusionFront pause = ran("lanes 1;branch ahead 1 times 1;long nop;nop;add;", 1);
        Checks.same("length pause", pause.count(22), 3);
        pause.run(1);
        Checks.same("no length pause", pause.count(22), 0);
        Checks.queue("fetched at once", pause, 2, 3);
    }

    private static void rightPredictions() {
        Checks.sentence("If no loop is replayed, the prediction is right, and it is taken: decoding stops at the next "
                + "lane for cause 7.");
        for (int lanes = 1; lanes <= 6; lanes++) {
            FusionFront front = ran("lanes " + lanes + ";jump ahead 0;nop;nop;", 2);
            Checks.bubbles("lane 0 of " + lanes, front, lanes, 0, 0, 0, 0, 0, lanes - 1, 0);
            Checks.same("one is decoded", front.count(10), 1);
        }
        FusionFront last = ran("lanes 3;nop;nop;jump ahead 0;nop;", 2);
        Checks.bubbles("in the last lane", last, 3, 0, 0, 0, 0, 0, 0, 0);
        // Right and not taken: decoding goes on.
        FusionFront not = ran("lanes 6;branch ahead 0 times 1;nop;jump back 2;", 7);
        Checks.same("wrong once", not.count(15), 1);
        Checks.same("nop and jump", not.count(10), 3);
        not = ran("lanes 4;nop;branch back 1 times 1;jump back 2;", 12);
        Checks.same("taken, then not taken", not.count(15), 2);
    }

    private static void opsOfLoops() {
        Checks.sentence("those from the target to it have at most as many ops together as loop tells,");
        for (int loop = 0; loop <= 6; loop++) {
            FusionFront front = ran("loop " + loop + ";nop;store;jump back 2;", 60);
            Checks.same("4 ops with loop " + loop, front.count(16), loop >= 4 ? 1 : 0);
            Checks.same("loopable with loop " + loop, front.isLoopable(2) ? 1 : 0, loop >= 4 ? 1 : 0);
            front = ran("loop " + loop + ";nop;jump back 1;", 60);
            Checks.same("2 ops with loop " + loop, front.count(16), loop >= 2 ? 1 : 0);
        }
        String thirty = "repeat 4(repeat 7(nop;););nop;jump back 29;";
        Checks.same("30 ops with loop 30", ran("loop 30;" + thirty, 60).count(16), 1);
        Checks.same("30 ops with loop 29", ran("loop 29;" + thirty, 60).count(16), 0);
        Checks.same("31 ops with loop 30", ran("loop 30;nop;" + thirty.replace("29", "30"), 60).count(16), 0);
        // Fusion makes the units' ops fewer, but not those of the loop.
        FusionFront fused = ran("loop 2;fuse nop jump;nop;nop;jump back 2;", 60);
        Checks.same("3 ops, 2 of units", fused.count(16), 0);
        Checks.sentence("if the target is an instruction at or before the jump or branch,");
        Checks.same("1 back", ran("loop 30;nop;jump back 1;", 60).count(16), 1);
        Checks.same("29 back", ran("loop 30;repeat 1(" + "nop;".repeat(29) + "jump back 29;);", 60).count(16), 1);
        Checks.same("ahead", ran("loop 30;jump ahead 0;jump ahead 0;nop;", 60).count(16), 0);
        Checks.same("the end", ran("loop 30;jump ahead 0;", 60).count(16), 0);
    }

    private static void sameOneBefore() {
        Checks.sentence("and the last jump or branch that was taken before was the same one.");
        FusionFront front = ran("lanes 2;loop 2;nop;jump back 1;", 2);
        Checks.same("taken once", front.times(1), 1);
        Checks.same("no loop yet", front.count(16), 0);
        front.run(1);
        Checks.same("taken twice", front.times(1), 2);
        Checks.same("a loop", front.count(16), 1);
        // Each turn of the branch is taken once: the last one that was taken before is always the jump.
        front = ran("lanes 2;loop 30;nop;branch back 1 times 1;jump back 2;", 200);
        Checks.holds("it was taken often", front.times(2) > 5);
        Checks.same("never a loop", front.count(16), 0);
        // Taken twice in a row, the second time predicted right.
        front = ran("lanes 2;loop 30;nop;branch back 1 times 2;jump back 2;", 200);
        Checks.holds("a loop in each turn", front.count(16) >= front.times(2) && front.times(2) > 5);
        // A wrong prediction counts as taken; one that is not taken between does not.
        front = ran("lanes 6;loop 30;nop;branch back 1 times 2;add;", 7);
        Checks.same("wrong once, then right", front.count(15), 1);
        Checks.same("a loop at the first right one", front.count(16), 1);
        // The branch at the start is not taken in its second turn: the jump is the last one taken before itself.
        front = ran("lanes 1;loop 30;branch ahead 0 times 1;nop;jump back 1;", 60);
        Checks.same("the jump twice", front.count(16), 1);
    }

    private static void otherJumps() {
        Checks.sentence("no other one of them is a jump or branch,");
        Checks.same("a jump first", ran("loop 30;jump ahead 0;nop;jump back 2;", 99).count(16), 0);
        Checks.same("a jump just before", ran("loop 30;nop;jump ahead 0;jump back 2;", 99).count(16), 0);
        Checks.same("a branch", ran("loop 30;branch ahead 0 times 1;nop;jump back 2;", 99).count(16), 0);
        Checks.same("a jump before the target", ran("loop 30;jump ahead 0;nop;jump back 1;", 99).count(16), 1);
        FusionFront front = Checks.made("loop 30;jump ahead 0;nop;jump back 1;jump back 2;jump back 2;jump ahead 0;");
        boolean[] due = {false, false, true, false, false, false};
        for (int number = 0; number < due.length; number++) {
            Checks.same("loopable " + number, front.isLoopable(number) ? 1 : 0, due[number] ? 1 : 0);
        }
    }

    private static void beginningLoops() {
        Checks.sentence("The queue becomes empty then, and a cut and a length pause end.");
        // Addresses 0, 1, 4, 7, 10: the third mov is cut behind each odd cycle; the jump is decoded in cycles 6 and 10.
        FusionFront cut = ran("window 8;lanes 1;queue 20;loop 30;nop;mov;mov;mov;jump back 3;", 9);
        Checks.holds("cut", cut.isCut());
        Checks.same("no loop", cut.count(16), 0);
        Checks.same("eleven in the queue", cut.count(19), 11);
        Checks.same("the jump", cut.run(1), 1);
        Checks.same("a loop", cut.count(16), 1);
        Checks.fails("not cut", cut.isCut());
        Checks.same("empty", cut.count(19), 0);
        Checks.same("place as it was", cut.count(20), 3);
        // The long one is marked in cycle 11, the jump is decoded in cycles 9 and 14.
        FusionFront pause = ran("lanes 1;loop 30;long nop;nop;nop;nop;jump back 4;", 13);
        Checks.same("length pause", pause.count(22), 1);
        Checks.same("no loop yet", pause.count(16), 0);
        Checks.same("the jump", pause.run(1), 1);
        Checks.same("a loop", pause.count(16), 1);
        Checks.same("no length pause", pause.count(22), 0);
        Checks.same("empty, too", pause.count(19), 0);
    }

    private static void nothingFetched() {
        Checks.sentence("Nothing is fetched while a loop is replayed, or if the place is the end.");
        FusionFront loop = ran("lanes 2;loop 2;nop;jump back 1;", 3);
        Checks.same("a loop", loop.count(16), 1);
        int windows = loop.count(13);
        loop.run(99);
        Checks.same("no window", loop.count(13), windows);
        Checks.same("no queue", loop.count(19), 0);
        FusionFront end = ran("window 8;lanes 1;load;load;", 1);
        Checks.same("the place is the end", end.count(20), 2);
        end.run(99);
        Checks.same("one window", end.count(13), 1);
        Checks.same("the place stays", end.count(20), 2);
        FusionFront pause = ran("lanes 1;long nop;", 50);
        Checks.same("the length pause stays", pause.count(22), 3);
        FusionFront cut = ran("window 8;mov;mov;mov;", 9);
        Checks.same("two windows", cut.count(13), 2);
    }

    private static void lengthPause() {
        Checks.sentence("If there is a length pause, it becomes one cycle shorter, and nothing else is done.");
        // Seven instructions up to address 7; the last one begins at the reach.
        FusionFront front = ran("lanes 1;window 8;nop;nop;nop;nop;nop;nop;long nop;nop;", 1);
        Checks.same("up to the long one", front.count(19), 7);
        for (int left = 3; left > 0; left--) {
            Checks.same("pause", front.count(22), left);
            Checks.same("one window", front.count(13), 1);
            front.run(1);
            Checks.same("one less in the queue", front.count(19), 3 + left);
        }
        Checks.same("no pause", front.count(22), 0);
        Checks.same("still one window", front.count(13), 1);
        front.run(1);
        Checks.same("the next window", front.count(13), 2);
        Checks.queue("the last one", front, 4, 5, 6, 7);
    }

    private static void windowsRead() {
        Checks.sentence("Otherwise a window is read if the place's instruction is cut (the window behind the reach; it "
                + "is not cut any more),");
        FusionFront cut = ran("window 8;lanes 1;mov;mov;mov;nop;load;nop;", 1);
        Checks.holds("cut", cut.isCut());
        cut.run(1);
        Checks.fails("not cut", cut.isCut());
        // Addresses 0, 3, 6, 9, 10, 14: all that is left is in the second window.
        Checks.queue("the rest", cut, 1, 2, 3, 4, 5);
        Checks.same("two windows", cut.count(13), 2);
        Checks.sentence("or if the place was set since the last window was read,");
        // The target is in the window that was read last.
        FusionFront set = ran("lanes 1;queue 2;nop;jump ahead 0;nop;nop;nop;", 1);
        Checks.same("one window", set.count(13), 1);
        set.run(1);
        Checks.same("the same one again", set.count(13), 2);
        Checks.queue("one more", set, 1, 2);
        set.run(3);
        Checks.same("but only once", set.count(13), 2);
        FusionFront full = Checks.made("queue 2;nop;jump ahead 0;nop;");
        full.redirect(0);
        full.run(1);
        Checks.queue("full in the pause", full, 0, 1);
        full.run(1);
        Checks.same("read with a full queue", full.count(13), 2);
        full.run(1);
        Checks.same("not once more", full.count(13), 2);
        Checks.sentence("or the address of the place is the reach or beyond it (the window that holds this address).");
        FusionFront reach = ran("window 8;lanes 1;load;load;nop;nop;", 1);
        Checks.same("the place is at the reach", reach.instruction(reach.count(20), 1), 8);
        reach.run(1);
        Checks.same("the next window", reach.count(13), 2);
        Checks.queue("all", reach, 1, 2, 3);
        FusionFront before = ran("window 8;lanes 1;queue 2;load;mov;nop;nop;", 1);
        Checks.same("the place is before the reach", before.instruction(before.count(20), 1), 7);
        before.run(1);
        Checks.same("no window", before.count(13), 1);
        before.run(1);
        Checks.same("at the reach", before.count(13), 2);
        // A target two windows on: the window between is not read.
        FusionFront far = ran("window 8;lanes 1;jump ahead 5;load;load;load;load;load;nop;load;", 2);
        Checks.same("two windows", far.count(13), 2);
        Checks.queue("from the target on", far, 6);
        Checks.holds("a load that begins at 23 is cut", far.isCut());
    }

    private static void theEnd() {
        Checks.sentence("until one of these applies, which are asked in this order (so nothing is cut when the queue "
                + "is full): the place is the end;");
        FusionFront front = ran("queue 20;repeat 8(nop;);", 1);
        Checks.same("all eight", front.count(19), 8);
        Checks.same("the end", front.count(20), 8);
        Checks.fails("not cut at the end", front.isCut());
        FusionFront eight = ran("window 8;repeat 8(nop;);", 1);
        Checks.same("the end is the reach", eight.count(20), 8);
        eight.run(3);
        Checks.same("no window behind it", eight.count(13), 1);
    }

    private static void fullQueue() {
        Checks.sentence("the queue has as many instructions as queue tells;");
        for (int queue = 2; queue <= 20; queue++) {
            FusionFront front = ran("window 32;queue " + queue + ";repeat 3(repeat 9(nop;););", 1);
            Checks.same("queue " + queue, front.count(19), queue);
            Checks.same("place of queue " + queue, front.count(20), queue);
            Checks.same("the last one of queue " + queue, front.queueAt(queue - 1), queue - 1);
        }
        FusionFront front = ran("window 32;lanes 1;queue 2;repeat 9(nop;);", 2);
        Checks.queue("one more when one has left", front, 1, 2);
        Checks.sentence("(so nothing is cut when the queue is full)");
        front = ran("window 8;lanes 1;queue 2;mov;mov;mov;", 1);
        Checks.fails("full", front.isCut());
        Checks.same("no cut", front.count(14), 0);
        front = ran("window 8;lanes 1;queue 3;mov;mov;mov;", 1);
        Checks.holds("not full", front.isCut());
        Checks.same("a cut", front.count(14), 1);
    }

    private static void lastBytes() {
        Checks.sentence("the instruction of the place has its last byte at the reach or beyond it (it is cut then, if "
                + "its first byte is before the reach);");
        // The third one has its first and last byte at: 6 and 7; 6 and 8; 7 and 7; 7 and 8; 7 and 11; 8 and 8.
        String[] texts = {"mov;mov;add;", "mov;mov;mov;", "mov;load;nop;", "mov;load;add;", "mov;load;long store;",
            "load;load;nop;"};
        int[] marked = {3, 2, 3, 2, 2, 2};
        boolean[] cut = {false, true, false, true, true, false};
        for (int index = 0; index < texts.length; index++) {
            FusionFront front = ran("window 8;lanes 1;" + texts[index], 1);
            Checks.same(texts[index] + " marked", front.count(19), marked[index]);
            Checks.same(texts[index] + " place", front.count(20), marked[index]);
            Checks.same(texts[index] + " cut", front.isCut() ? 1 : 0, cut[index] ? 1 : 0);
            Checks.same(texts[index] + " cuts", front.count(14), cut[index] ? 1 : 0);
            front.run(1);
            Checks.same(texts[index] + " all", front.count(20), 3);
            Checks.same(texts[index] + " windows", front.count(13), marked[index] == 3 ? 1 : 2);
        }
    }

    private static void longMarked() {
        Checks.sentence("a long instruction was marked (there is a length pause of 3 cycles then);");
        FusionFront front = ran("lanes 1;nop;long nop;nop;", 1);
        Checks.queue("to the long one", front, 0, 1);
        Checks.same("pause", front.count(22), 3);
        Checks.same("the place is the next one", front.count(20), 2);
        // One that is not marked yet makes no pause: the queue is full, or it is cut.
        front = ran("lanes 1;queue 2;nop;nop;long nop;", 1);
        Checks.same("not marked, the queue is full", front.count(22), 0);
        front = ran("window 8;lanes 1;mov;mov;long add;", 1);
        Checks.holds("cut", front.isCut());
        Checks.same("not marked, cut", front.count(22), 0);
        front.run(1);
        Checks.same("marked", front.count(22), 3);
    }

    private static void takenMarked() {
        Checks.sentence("a jump or branch was marked that is predicted taken (the place is its target).");
        FusionFront front = ran("nop;jump ahead 1;nop;add;", 1);
        Checks.queue("to the jump", front, 0, 1);
        Checks.same("its target", front.count(20), 3);
        front = ran("nop;branch ahead 1 times 1;nop;add;", 1);
        Checks.queue("on behind a branch", front, 0, 1, 2, 3);
        front = ran("nop;jump ahead 9;nop;", 1);
        Checks.same("the target is the end", front.count(20), 3);
        front.run(2);
        Checks.same("decoded", front.count(10), 2);
        Checks.same("no more windows", front.count(13), 1);
        front = ran("jump ahead 0;jump ahead 0;jump ahead 0;", 1);
        Checks.queue("one jump a cycle", front, 0);
        front.run(1);
        Checks.queue("the next one", front, 1);
    }

    private static void placeIsSet() {
        Checks.sentence("The place is set by a wrong prediction, by a jump or branch that is predicted taken, by the end "
                + "of a loop, and by redirect.");
        // All is in one window: another one is read only when the place was set.
        FusionFront wrong = ran("lanes 1;branch ahead 0 times 1;nop;", 1);
        Checks.same("one", wrong.count(13), 1);
        wrong.run(1);
        Checks.same("read again behind a wrong prediction", wrong.count(13), 2);
        wrong.run(9);
        Checks.same("not once more", wrong.count(13), 2);
        FusionFront jump = ran("lanes 1;jump ahead 0;nop;", 2);
        Checks.same("read again behind a jump", jump.count(13), 2);
        jump.run(9);
        Checks.same("not once more", jump.count(13), 2);
        FusionFront loop = ran("lanes 6;loop 2;add;branch back 1 times 4;load;", 7);
        int windows = loop.count(13);
        Checks.same("the loop ends", loop.run(1), 6);
        Checks.same("read again behind a loop", loop.count(13), windows + 1);
        loop.run(9);
        Checks.same("not once more", loop.count(13), windows + 1);
        FusionFront redirected = ran("lanes 1;nop;nop;", 1);
        redirected.redirect(1);
        redirected.run(1);
        Checks.same("read again behind redirect", redirected.count(13), 2);
        redirected.run(9);
        Checks.same("not once more", redirected.count(13), 2);
        FusionFront none = ran("lanes 1;queue 2;branch ahead 0 times 1;repeat 9(nop;);", 1);
        none.redirect(1);
        none.run(30);
        Checks.same("the other ones are marked one behind the other", none.count(13), 2);
    }

    private static void nextByNumber() {
        Checks.sentence("The place becomes the next instruction by number each time but by the last of these.");
        // A full queue, a cut one, one at the reach and a long one: the place is the first one that is not marked.
        Checks.same("full", ran("lanes 1;queue 2;nop;nop;nop;", 1).count(20), 2);
        Checks.same("cut", ran("window 8;mov;mov;mov;", 1).count(20), 2);
        Checks.same("at the reach", ran("window 8;load;load;mov;", 1).count(20), 2);
        Checks.same("long", ran("nop;long nop;nop;", 1).count(20), 2);
        Checks.same("long, not taken", ran("nop;long branch back 1 times 1;nop;", 1).count(20), 2);
        Checks.same("taken", ran("nop;jump ahead 1;nop;nop;", 1).count(20), 3);
        // Long and taken: promise 24 asks that only a redirect leads elsewhere than a plain decoder goes.
        FusionFront both = ran("lanes 1;nop;long jump ahead 1;nop;add;nop;", 1);
        Checks.same("long and taken", both.count(20), 3);
        Checks.same("a length pause", both.count(22), 3);
        both.run(20);
        Checks.same("what is skipped", both.times(2), 0);
        Checks.holds("agrees", both.agrees());
    }
}
