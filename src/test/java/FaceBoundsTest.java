import java.util.NoSuchElementException;

/** Promises 7 to 27 at the bounds: each check stands behind the sentence that it is about. */
public final class FaceBoundsTest {
    private static final Class<IndexOutOfBoundsException> NO_INDEX = IndexOutOfBoundsException.class;
    private static final Class<IllegalArgumentException> NO_ARGUMENT = IllegalArgumentException.class;
    private static final Class<NoSuchElementException> NO_ELEMENT = NoSuchElementException.class;
    private static final int[] FAR = {Integer.MIN_VALUE, -61, -2, 61, 1000000, Integer.MAX_VALUE};

    private FaceBoundsTest() {
    }

    public static void main(String[] args) {
        constants();
        counts();
        placeCount();
        instructions();
        bytes();
        crossings();
        pairs();
        loopables();
        wholeProgram();
        kinds();
        rules();
        queue();
        loops();
        cuts();
        causes();
        eachCauseMost();
        latest();
        plainDecoder();
        agreement();
        eachTimes();
        shares();
        manyCalls();
        Checks.end();
    }

    private static void constants() {
        Checks.sentence("`NONE = -1`: There is no such thing.");
        Checks.same("NONE", FusionFront.NONE, -1);
    }

    private static void counts() {
        Checks.sentence("Returns the number; NONE for another what.");
        FusionFront front = Checks.made("nop;");
        Checks.same("the first one", front.count(0), 1);
        Checks.same("the last one", front.count(24), 0);
        front.stall(1);
        Checks.same("the last one, then", front.count(24), 1);
        Checks.same("23", front.count(23), 1);
        Checks.same("before", front.count(-1), FusionFront.NONE);
        Checks.same("behind", front.count(25), FusionFront.NONE);
        for (int what : FAR) {
            Checks.same("count " + what, front.count(what), FusionFront.NONE);
        }
    }

    private static void placeCount() {
        Checks.sentence("20 the place (the number of instructions at the end; while a loop is replayed, as it was "
                + "when the loop was begun)");
        FusionFront front = Checks.made("nop;nop;nop;");
        Checks.same("at first", front.count(20), 0);
        front.run(1);
        Checks.same("at the end", front.count(20), 3);
        Checks.same("the end of nothing", new FusionFront().count(20), 0);
        // The queue of two: the place is 1 when the loop is begun.
        FusionFront loop = Checks.made("lanes 1;queue 3;loop 9;nop;add;mov;jump back 3;");
        int place = loop.count(20);
        while (loop.loop(0) == FusionFront.NONE && loop.count(9) < 30) {
            place = loop.count(20);
            loop.run(1);
        }
        Checks.same("when it was begun", loop.count(20), place);
        Checks.holds("neither the first one nor the end", place > 0 && place < 4);
        loop.run(9);
        Checks.same("while it is replayed", loop.count(20), place);
    }

    private static void instructions() {
        Checks.sentence("Throws `IndexOutOfBoundsException` if there is no such instruction or property");
        FusionFront front = Checks.made("nop;add;branch back 2 times 3;");
        Checks.same("the first one's first", front.instruction(0, 0), 0);
        Checks.same("the first one's last", front.instruction(0, 7), FusionFront.NONE);
        Checks.same("the last one's first", front.instruction(2, 0), 9);
        Checks.same("the last one's last", front.instruction(2, 7), 0);
        Checks.throwsOne("-1", NO_INDEX, () -> front.instruction(-1, 0));
        Checks.throwsOne("3", NO_INDEX, () -> front.instruction(3, 0));
        Checks.throwsOne("property -1", NO_INDEX, () -> front.instruction(2, -1));
        Checks.throwsOne("property 8", NO_INDEX, () -> front.instruction(2, 8));
        Checks.throwsOne("both", NO_INDEX, () -> front.instruction(3, 8));
        FusionFront empty = new FusionFront();
        Checks.throwsOne("0 of none", NO_INDEX, () -> empty.instruction(0, 0));
        for (int far : FAR) {
            Checks.throwsOne("number " + far, NO_INDEX, () -> front.instruction(far, 0));
            Checks.throwsOne("property " + far, NO_INDEX, () -> front.instruction(0, far));
        }
        Checks.sentence("4 its target (the number of instructions for the end; NONE if it is neither jump nor "
                + "branch), 5 its times (NONE if it is no branch), 6 whether it is long (1 or 0), 7 whether it is "
                + "predicted taken now (1 or 0; NONE if it is neither jump nor branch)");
        FusionFront all = Checks.made("div;jump ahead 0;long branch ahead 0 times 99;");
        int[][] due = {{-1, -1, 0, -1}, {2, -1, 0, 1}, {3, 99, 1, 0}};
        for (int number = 0; number < 3; number++) {
            for (int what = 4; what <= 7; what++) {
                Checks.same(number + " property " + what, all.instruction(number, what), due[number][what - 4]);
            }
        }
    }

    private static void bytes() {
        Checks.sentence("Returns number of the instruction; NONE if there is none.");
        FusionFront front = Checks.made("long nop;nop;store;");
        int[] due = {0, 0, 1, 2, 2, 2, 2};
        for (int address = 0; address < due.length; address++) {
            Checks.same("at " + address, front.at(address), due[address]);
        }
        Checks.same("behind the last byte", front.at(7), FusionFront.NONE);
        Checks.same("before the first byte", front.at(-1), FusionFront.NONE);
        Checks.same("least", front.at(Integer.MIN_VALUE), FusionFront.NONE);
        Checks.same("greatest", front.at(Integer.MAX_VALUE), FusionFront.NONE);
        Checks.same("no bytes", new FusionFront().at(0), FusionFront.NONE);
        FusionFront full = Checks.made("repeat 6(repeat 9(long store;););repeat 6(long store;);");
        Checks.same("the last byte of 300", full.at(299), 59);
        Checks.same("the first byte of the last one", full.at(295), 59);
        Checks.same("the byte before it", full.at(294), 58);
        Checks.same("byte 300 of 300", full.at(300), FusionFront.NONE);
    }

    private static void crossings() {
        Checks.sentence("Tells whether an instruction begins in one window and ends in another one.");
        // First and last bytes: 0 and 3, 4 and 7; 8 and 12, 13 and 15; 16 and 22, 23 and 24.
        FusionFront front = Checks.made("window 8;load;load;long load;mov;mov;load;add;nop;");
        boolean[] due = {false, false, false, false, false, false, true, false};
        for (int number = 0; number < due.length; number++) {
            Checks.same("crosses " + number, front.crosses(number) ? 1 : 0, due[number] ? 1 : 0);
        }
        Checks.same("crossing", front.crossing(), 1);
        FusionFront wide = Checks.made("window 16;load;load;load;mov;add;");
        Checks.holds("15 and 16", wide.crosses(4));
        Checks.fails("12 and 14", wide.crosses(3));
        wide = Checks.made("window 32;repeat 7(load;);mov;add;");
        Checks.holds("31 and 32", wide.crosses(8));
        Checks.fails("28 and 30", wide.crosses(7));
        refusesIndex("crosses", 8, number -> front.crosses(number));
        refusesIndex("crosses none", 0, number -> new FusionFront().crosses(number));
    }

    private interface Indexed {
        void ask(int number);
    }

    /** There are so many: the first and the last one have an answer, those around them have none. */
    private static void refusesIndex(String what, int many, Indexed call) {
        Checks.sentence("Throws `IndexOutOfBoundsException` if there is no such instruction");
        if (many > 0) {
            call.ask(0);
            call.ask(many - 1);
        }
        Checks.throwsOne(what + " -1", NO_INDEX, () -> call.ask(-1));
        Checks.throwsOne(what + " " + many, NO_INDEX, () -> call.ask(many));
        for (int far : FAR) {
            Checks.throwsOne(what + " " + far, NO_INDEX, () -> call.ask(far));
        }
    }

    private static void pairs() {
        Checks.sentence("Returns true if it would, false also for the last instruction.");
        FusionFront front = Checks.made("fuse add add;add;add;add;");
        Checks.holds("the first one", front.fuses(0));
        Checks.holds("the last but one", front.fuses(1));
        Checks.fails("the last one", front.fuses(2));
        FusionFront one = Checks.made("fuse add add;add;");
        Checks.fails("the only one", one.fuses(0));
        FusionFront full = Checks.made("window 32;fuse nop nop;repeat 6(repeat 9(nop;););repeat 6(nop;);");
        Checks.holds("58 of 60", full.fuses(58));
        Checks.fails("59 of 60", full.fuses(59));
        Checks.fails("31 and 32", full.fuses(31));
        refusesIndex("fuses", 3, number -> front.fuses(number));
        refusesIndex("fuses none", 0, number -> new FusionFront().fuses(number));
    }

    private static void loopables() {
        Checks.sentence("Returns true if it could, false also for an instruction that is neither jump nor branch.");
        FusionFront front = Checks.made("loop 30;nop;jump back 1;nop;branch back 1 times 1;jump ahead 9;");
        boolean[] due = {false, true, false, true, false};
        for (int number = 0; number < due.length; number++) {
            Checks.same("loopable " + number, front.isLoopable(number) ? 1 : 0, due[number] ? 1 : 0);
        }
        Checks.sentence("those from the target to it have at most as many ops together as loop tells now,");
        front.set(7, 2);
        Checks.holds("2 ops of 2", front.isLoopable(1));
        front.set(7, 1);
        Checks.fails("2 ops of 1", front.isLoopable(1));
        front.set(7, 0);
        Checks.fails("2 ops of 0", front.isLoopable(3));
        refusesIndex("isLoopable", 5, number -> front.isLoopable(number));
        refusesIndex("isLoopable none", 0, number -> new FusionFront().isLoopable(number));
    }

    private static void wholeProgram() {
        Checks.sentence("Counts the instructions that would be fused with the next ones (see fuses), each for "
                + "itself.");
        Checks.same("none at all", new FusionFront().fusable(), 0);
        Checks.same("one", Checks.made("fuse nop nop;nop;").fusable(), 0);
        Checks.same("two", Checks.made("fuse nop nop;nop;nop;").fusable(), 1);
        Checks.same("three", Checks.made("fuse nop nop;nop;nop;nop;").fusable(), 2);
        Checks.same("60, 32 of them in the first window",
                Checks.made("window 32;fuse nop nop;repeat 6(repeat 9(nop;););repeat 6(nop;);").fusable(), 58);
        Checks.sentence("Counts the instructions that begin in one window and end in another one.");
        Checks.same("none at all", new FusionFront().crossing(), 0);
        Checks.same("8 of 8", Checks.made("window 8;load;load;").crossing(), 0);
        Checks.same("9 of 8", Checks.made("window 8;load;long load;").crossing(), 1);
        Checks.same("the first one of 60 crosses none", Checks.made(
                "window 8;repeat 6(repeat 9(load;););repeat 6(load;);").crossing(), 0);
        // Threes: of each eight instructions two cross, those that begin at 6 and 15 of 24 bytes.
        Checks.same("60 of 3", Checks.made("window 8;repeat 6(repeat 9(mov;););repeat 6(mov;);").crossing(), 15);
    }

    private static void kinds() {
        Checks.sentence("Throws `IllegalArgumentException` if kind is out of range");
        FusionFront front = Checks.made("nop;branch ahead 0 times 1;nop;");
        Checks.same("kind 0", front.ofKind(0, false), 2);
        Checks.same("kind 9", front.ofKind(9, false), 1);
        for (boolean decoded : new boolean[] {false, true}) {
            Checks.throwsOne("kind -1", NO_ARGUMENT, () -> front.ofKind(-1, decoded));
            Checks.throwsOne("kind 10", NO_ARGUMENT, () -> front.ofKind(10, decoded));
            for (int far : FAR) {
                Checks.throwsOne("kind " + far, NO_ARGUMENT, () -> front.ofKind(far, decoded));
            }
        }
        Checks.sentence("true to count how often such instructions were decoded, false to count the instructions");
        Checks.same("not yet", front.ofKind(0, true), 0);
        front.run(20);
        Checks.same("decoded 0", front.ofKind(0, true), 2);
        Checks.same("decoded 9", front.ofKind(9, true), 1);
        Checks.same("decoded 8", front.ofKind(8, true), 0);
        Checks.same("none at all", new FusionFront().ofKind(0, false), 0);
    }

    private static void rules() {
        Checks.sentence("Throws `IndexOutOfBoundsException` if there is no such rule");
        FusionFront front = Checks.made("fuse nop add;fuse add nop;fuse mov div;fuse div mov;fuse div jump;"
                + "fuse div branch;");
        int[] due = {1, 10, 27, 72, 78, 79};
        for (int rule = 0; rule < 6; rule++) {
            Checks.same("first of " + rule, front.rule(rule, false), due[rule] / 10);
            Checks.same("second of " + rule, front.rule(rule, true), due[rule] % 10);
        }
        FusionFront empty = new FusionFront();
        for (boolean second : new boolean[] {false, true}) {
            Checks.throwsOne("-1", NO_INDEX, () -> front.rule(-1, second));
            Checks.throwsOne("6 of 6", NO_INDEX, () -> front.rule(6, second));
            Checks.throwsOne("0 of none", NO_INDEX, () -> empty.rule(0, second));
            for (int far : FAR) {
                Checks.throwsOne("rule " + far, NO_INDEX, () -> front.rule(far, second));
            }
        }
        front.removeRule(0);
        Checks.same("4 of 5", front.rule(4, true), 9);
        Checks.throwsOne("5 of 5", NO_INDEX, () -> front.rule(5, true));
    }

    private static void queue() {
        Checks.sentence("Throws `NoSuchElementException` if there is no such index");
        FusionFront front = Checks.made("window 32;lanes 1;queue 20;repeat 3(repeat 9(nop;););");
        Checks.throwsOne("0 of none", NO_ELEMENT, () -> front.queueAt(0));
        front.run(1);
        Checks.same("the first one", front.queueAt(0), 0);
        Checks.same("the last one", front.queueAt(19), 19);
        Checks.throwsOne("20 of 20", NO_ELEMENT, () -> front.queueAt(20));
        Checks.throwsOne("-1", NO_ELEMENT, () -> front.queueAt(-1));
        for (int far : FAR) {
            Checks.throwsOne("index " + far, NO_ELEMENT, () -> front.queueAt(far));
        }
        front.runTo(25);
        Checks.same("two are left", front.count(19), 2);
        Checks.same("the last one of two", front.queueAt(1), 26);
        Checks.throwsOne("2 of 2", NO_ELEMENT, () -> front.queueAt(2));
    }

    private static void loops() {
        Checks.sentence("Throws `IllegalArgumentException` if what is out of range");
        FusionFront none = Checks.made("nop;");
        FusionFront loop = Checks.made("lanes 1;loop 9;nop;store;jump back 1;");
        loop.runTo(6);
        int[] due = {1, 2, 2, 3};
        for (int what = 0; what <= 3; what++) {
            Checks.same("property " + what, loop.loop(what), due[what]);
            Checks.same("of none " + what, none.loop(what), FusionFront.NONE);
        }
        for (FusionFront front : new FusionFront[] {none, loop}) {
            Checks.throwsOne("-1", NO_ARGUMENT, () -> front.loop(-1));
            Checks.throwsOne("4", NO_ARGUMENT, () -> front.loop(4));
            for (int far : FAR) {
                Checks.throwsOne("what " + far, NO_ARGUMENT, () -> front.loop(far));
            }
        }
        Checks.sentence("Returns the property; NONE if no loop is replayed.");
        loop.redirect(0);
        for (int what = 0; what <= 3; what++) {
            Checks.same("ended " + what, loop.loop(what), FusionFront.NONE);
        }
    }

    private static void cuts() {
        Checks.sentence("Tells whether the instruction of the place is cut.");
        FusionFront front = Checks.made("window 8;lanes 1;mov;mov;mov;");
        Checks.fails("at first", front.isCut());
        front.run(1);
        Checks.holds("cut", front.isCut());
        front.run(1);
        Checks.fails("read", front.isCut());
        Checks.fails("nothing to cut", new FusionFront().isCut());
    }

    private static void causes() {
        Checks.sentence("Throws `IllegalArgumentException` if cause is out of range");
        FusionFront front = Checks.made("lanes 2;nop;");
        Checks.throwsOne("0", NO_ARGUMENT, () -> front.bubbles(0));
        Checks.throwsOne("9", NO_ARGUMENT, () -> front.bubbles(9));
        Checks.throwsOne("-1", NO_ARGUMENT, () -> front.bubbles(-1));
        for (int far : FAR) {
            Checks.throwsOne("cause " + far, NO_ARGUMENT, () -> front.bubbles(far));
        }
        for (int cause = 1; cause <= 8; cause++) {
            Checks.same("at first " + cause, front.bubbles(cause), 0);
        }
        Checks.sentence("Returns the cause, the smallest one on a tie; NONE if no lane stayed unused.");
        Checks.same("no cycle", front.mainCause(), FusionFront.NONE);
        front.run(1);
        Checks.same("2 for 1", front.mainCause(), 1);
        front.run(1);
        Checks.same("2 for 1, 1 for 8", front.mainCause(), 1);
        front.set(2, 1);
        front.run(1);
        Checks.same("the first cause", front.bubbles(1), 2);
        Checks.same("the last cause", front.bubbles(8), 2);
        Checks.same("a tie", front.mainCause(), 1);
        front.run(1);
        Checks.same("3 for 8", front.mainCause(), 8);
        // 4 for cause 1, then 4 lanes of a pause of cause 4 each cycle.
        FusionFront tie = Checks.made("lanes 4;nop;");
        tie.run(1);
        tie.redirect(0);
        tie.run(1);
        Checks.same("4 for 1, 4 for 4", tie.mainCause(), 1);
        tie.run(1);
        Checks.same("4 for 1, 8 for 4", tie.mainCause(), 4);
    }

    /** Cycle 1 leaves one lane unused for cause 1, or two; then each cause is ahead by one, or there is a tie. */
    private static void eachCauseMost() {
        Checks.sentence("Returns the cause, the smallest one on a tie; NONE if no lane stayed unused.");
        String[] texts = {"window 8;mov;mov;mov;", "long nop;nop;", "branch ahead 0 times 1;nop;", "nop;store;",
            "ops 4;nop;nop;nop;nop;nop;nop;", "jump ahead 0;nop;", "nop;"};
        int[] used = {2, 1, 1, 1, 4, 1, 1};
        for (int index = 0; index < texts.length; index++) {
            int cause = index + 2;
            for (int first = 1; first <= 2; first++) {
                FusionFront front = Checks.made("lanes " + first + ";" + texts[index]);
                front.run(1);
                front.set(2, used[index] + 2);
                Checks.same(texts[index], front.run(1), used[index]);
                Checks.same("lanes for 1", front.bubbles(1), first);
                Checks.same("lanes for " + cause, front.bubbles(cause), 2);
                Checks.same(texts[index] + " behind " + first, front.mainCause(), first == 1 ? cause : 1);
            }
        }
    }

    private static void latest() {
        Checks.sentence("Throws `NoSuchElementException` if there is none, or it is not one of the latest 100");
        FusionFront front = Checks.made("lanes 1;loop 30;nop;add;mov;load;cmp;test;jump back 5;");
        Checks.throwsOne("0 of none", NO_ELEMENT, () -> front.decoded(0));
        front.runTo(1);
        Checks.same("the only one", front.decoded(0), 0);
        Checks.throwsOne("1 of 1", NO_ELEMENT, () -> front.decoded(1));
        for (int many = 99; many <= 102; many++) {
            front.runTo(many);
            Checks.same("so many", front.count(10), many);
            Checks.same("0 of " + many, front.decoded(0), latestOf(many));
            Checks.same("98 of " + many, front.decoded(98), latestOf(many - 98));
            if (many >= 100) {
                Checks.same("99 of " + many, front.decoded(99), latestOf(many - 99));
            } else {
                Checks.throwsOne("99 of 99", NO_ELEMENT, () -> front.decoded(99));
            }
            Checks.throwsOne("100 of " + many, NO_ELEMENT, () -> front.decoded(100));
        }
        Checks.throwsOne("-1", NO_ELEMENT, () -> front.decoded(-1));
        for (int far : FAR) {
            if (far < 0 || far > 99) {
                Checks.throwsOne("back " + far, NO_ELEMENT, () -> front.decoded(far));
            }
        }
        // The 100 latest ones go round: each of them is right wherever they begin.
        for (int many = 190; many <= 310; many += 10) {
            front.runTo(many);
            for (int back = 0; back < 100; back += 11) {
                Checks.same(back + " of " + many, front.decoded(back), latestOf(many - back));
            }
        }
    }

    /** The program is nop, then six in a circle. */
    private static int latestOf(int many) {
        return many == 1 ? 0 : 1 + (many - 2) % 6;
    }

    private static void plainDecoder() {
        Checks.sentence("Throws `IllegalArgumentException` if index is out of range");
        FusionFront endless = Checks.made("nop;add;mov;jump back 3;");
        Checks.same("the first one", endless.plain(0), 0);
        Checks.same("the last one", endless.plain(9999), 3);
        Checks.same("the last but one", endless.plain(9998), 2);
        Checks.throwsOne("-1", NO_ARGUMENT, () -> endless.plain(-1));
        Checks.throwsOne("10000", NO_ARGUMENT, () -> endless.plain(10000));
        Checks.throwsOne("least", NO_ARGUMENT, () -> endless.plain(Integer.MIN_VALUE));
        Checks.throwsOne("greatest", NO_ARGUMENT, () -> endless.plain(Integer.MAX_VALUE));
        Checks.sentence("Returns number of the instruction; NONE if the end comes before.");
        FusionFront two = Checks.made("nop;add;");
        Checks.same("1 of 2", two.plain(1), 1);
        Checks.same("2 of 2", two.plain(2), FusionFront.NONE);
        Checks.same("9999 of 2", two.plain(9999), FusionFront.NONE);
        Checks.same("0 of none", new FusionFront().plain(0), FusionFront.NONE);
        FusionFront out = Checks.made("jump ahead 9;nop;");
        Checks.same("the jump", out.plain(0), 0);
        Checks.same("the end", out.plain(1), FusionFront.NONE);
    }

    private static void agreement() {
        Checks.sentence("whether there are so many instructions that a plain decoder decodes,");
        FusionFront front = Checks.made("lanes 1;nop;add;mov;");
        Checks.holds("none", front.agrees());
        front.run(2);
        front.redirect(1);
        front.run(9);
        Checks.same("three", front.count(10), 3);
        Checks.holds("three of three", front.agrees());
        front.redirect(2);
        Checks.holds("still three", front.agrees());
        front.run(9);
        Checks.same("four", front.count(10), 4);
        Checks.fails("four of three", front.agrees());
        // So many that the latest 100 come from a plain decoder that would have ended.
        FusionFront more = Checks.made("lanes 1;nop;branch back 1 times 60;add;");
        more.run(500);
        Checks.holds("all", more.agrees());
        Checks.same("122 and add", more.count(10), 123);
        more.redirect(2);
        more.run(9);
        Checks.fails("one more", more.agrees());
        Checks.sentence("and the latest 100 decoded ones (all, if there are fewer) are the same ones.");
        FusionFront one = Checks.made("lanes 1;loop 9;nop;jump back 1;add;");
        one.redirect(2);
        one.run(9);
        Checks.same("one", one.count(10), 1);
        Checks.fails("one that is another one", one.agrees());
        one.redirect(1);
        one.runTo(2);
        Checks.fails("another one, then the same", one.agrees());
        one.runTo(100);
        Checks.fails("another one of 100", one.agrees());
        one.runTo(101);
        Checks.holds("another one before the latest 100", one.agrees());
        Checks.sentence("Returns true if it is so; only behind redirect it may not be.");
        FusionFront none = new FusionFront();
        none.run(9);
        Checks.holds("the empty program", none.agrees());
    }

    private static void eachTimes() {
        Checks.sentence("Returns how often an instruction was decoded.");
        FusionFront front = Checks.made("lanes 1;loop 9;nop;branch back 1 times 99;add;");
        Checks.same("not yet", front.times(0), 0);
        front.run(500);
        Checks.same("the first one", front.times(0), 100);
        Checks.same("the branch", front.times(1), 100);
        Checks.same("the last one", front.times(2), 1);
        refusesIndex("times", 3, number -> front.times(number));
        refusesIndex("times of none", 0, number -> new FusionFront().times(number));
    }

    private static void shares() {
        Checks.sentence("Returns the mean; 0 if no cycle has passed.");
        FusionFront front = Checks.made("lanes 3;fuse add mov;add;mov;add;");
        Checks.same("no cycle", front.perCycle(), 0.0);
        front.run(1);
        Checks.same("0 in 1", front.perCycle(), 0.0);
        front.run(2);
        Checks.same("3 in 3", front.perCycle(), 1.0);
        front.run(4);
        Checks.same("3 in 7", front.perCycle(), 3.0 / 7.0);
        Checks.sentence("Returns the share; 0 if none was decoded.");
        Checks.same("2 of 3", front.fusedShare(), 2.0f / 3.0f);
        FusionFront none = Checks.made("add;mov;");
        Checks.same("nothing decoded", none.fusedShare(), 0.0f);
        none.run(1);
        Checks.same("still nothing", none.fusedShare(), 0.0f);
        none.run(9);
        Checks.same("nothing fused", none.fusedShare(), 0.0f);
        FusionFront all = Checks.made("fuse add mov;add;mov;");
        all.run(9);
        Checks.same("all fused", all.fusedShare(), 1.0f);
        all.undo();
        Checks.same("nothing again", all.fusedShare(), 0.0f);
        Checks.same("no cycle again", all.perCycle(), 0.0);
    }

    private static void manyCalls() {
        Checks.sentence("An object is used for at most 512 calls after it has been made;");
        FusionFront front = new FusionFront();
        int[] words = Checks.words("lanes 6;rate 8;loop 6;nop;jump back 1;  ".getBytes(), 0);
        front.feed(words[0], words[1], words[2], words[3], words[4]);
        words = Checks.words("lanes 6;rate 8;loop 6;nop;jump back 1;  ".getBytes(), 20);
        front.feed(words[0], words[1], words[2], words[3], words[4]);
        Checks.same("parse", front.parse(), 2);
        // Cycle 1 decodes none, cycles 2 and 3 two each, all others six.
        int due = 2 + 2 + 497 * 6;
        Checks.same("run", front.run(500), due);
        for (int call = 5; call <= 507; call++) {
            Checks.same("run of call " + call, front.run(500), 3000);
        }
        Checks.same("cycles", front.count(9), 504 * 500);
        Checks.same("decoded", front.count(10), due + 503 * 3000);
        Checks.holds("agrees", front.agrees());
        Checks.same("the 100th from the last", front.decoded(99), 0);
        Checks.same("the 512th call", front.undo(), 5);
    }
}
