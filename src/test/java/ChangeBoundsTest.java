/** Section 4 and promises 28 to 35 at the bounds: each check stands behind the sentence that it is about. */
public final class ChangeBoundsTest {
    private static final Class<IndexOutOfBoundsException> NO_INDEX = IndexOutOfBoundsException.class;
    private static final Class<IllegalArgumentException> NO_ARGUMENT = IllegalArgumentException.class;
    private static final Class<IllegalStateException> NO_STATE = IllegalStateException.class;
    private static final int[] FAR = {Integer.MIN_VALUE, -100000, 100000, Integer.MAX_VALUE};

    private ChangeBoundsTest() {
    }

    public static void main(String[] args) {
        whatAreChanges();
        latestSix();
        undoneNotYet();
        whatStays();
        orderOfExceptions();
        runs();
        runsTo();
        stalls();
        settings();
        loopGoesOn();
        addedRules();
        removedRules();
        redirects();
        redirectEnds();
        undos();
        Checks.end();
    }

    private static void whatAreChanges() {
        Checks.sentence("Changes are the methods of the section \"Changes\" below, apart from undo, when they succeed.");
        FusionFront front = Checks.made("nop;add;");
        front.run(1);
        Checks.same("run", front.count(24), 1);
        front.runTo(0);
        Checks.same("runTo without a cycle", front.count(24), 2);
        front.stall(0);
        Checks.same("stall for what it was", front.count(24), 3);
        front.set(2, 4);
        Checks.same("set to what it was", front.count(24), 4);
        front.addRule(0, 0);
        Checks.same("addRule", front.count(24), 5);
        front.undo();
        Checks.same("undo takes one away", front.count(24), 4);
        front.redirect(0);
        Checks.same("redirect", front.count(24), 5);
        front.saveState();
        front.printInstruction(0);
        front.feed(0, 0, 0, 0, 0);
        front.truncate(0);
        front.cyclesTo(1);
        Checks.same("no other method is one", front.count(24), 5);
        FusionFront rules = Checks.made("fuse nop nop;");
        rules.removeRule(0);
        Checks.same("removeRule", rules.count(24), 1);
        Checks.throwsOne("run 0", NO_ARGUMENT, () -> rules.run(0));
        Checks.throwsOne("runTo -1", NO_ARGUMENT, () -> rules.runTo(-1));
        Checks.throwsOne("stall -1", NO_ARGUMENT, () -> rules.stall(-1));
        Checks.throwsOne("set 3", NO_ARGUMENT, () -> rules.set(3, 8));
        Checks.throwsOne("set 2, 0", NO_ARGUMENT, () -> rules.set(2, 0));
        Checks.throwsOne("addRule 8", NO_ARGUMENT, () -> rules.addRule(8, 0));
        Checks.throwsOne("removeRule 0", NO_INDEX, () -> rules.removeRule(0));
        Checks.throwsOne("redirect 0", NO_INDEX, () -> rules.redirect(0));
        Checks.same("none of them succeeded", rules.count(24), 1);
    }

    private static void latestSix() {
        Checks.sentence("The latest 6 changes can be undone;");
        for (int many = 0; many <= 20; many++) {
            FusionFront front = Checks.made("nop;");
            for (int change = 1; change <= many; change++) {
                front.stall(change);
            }
            int can = Math.min(many, 6);
            Checks.same(many + " changes", front.count(24), can);
            for (int left = can - 1; left >= 0; left--) {
                Checks.same("undo of " + many, front.undo(), left);
                Checks.same("left of " + many, front.count(24), left);
                Checks.same("stall of " + many, front.count(23), many - (can - left));
            }
            Checks.throwsOne("one too many of " + many, NO_STATE, front::undo);
            Checks.same("stall stays of " + many, front.count(23), many - can);
        }
    }

    private static void undoneNotYet() {
        Checks.sentence("Undoes the latest change that was not undone yet.");
        FusionFront front = Checks.made("nop;");
        for (int change = 1; change <= 8; change++) {
            front.stall(change);
        }
        Checks.same("8 is undone", front.undo(), 5);
        Checks.same("7 is undone", front.undo(), 4);
        Checks.same("6 is there", front.count(23), 6);
        front.stall(50);
        Checks.same("five can be undone", front.count(24), 5);
        front.stall(51);
        front.stall(52);
        Checks.same("six can be undone", front.count(24), 6);
        int[] due = {51, 50, 6, 5, 4, 3};
        for (int index = 0; index < due.length; index++) {
            Checks.same("undo", front.undo(), 5 - index);
            Checks.same("back to", front.count(23), due[index]);
        }
        Checks.throwsOne("no more", NO_STATE, front::undo);
    }

    private static void whatStays() {
        Checks.sentence("the input buffer, the error, the output and the saved state stay as they are.");
        FusionFront front = Checks.made("nop;add;");
        front.run(1);
        front.printInstruction(1);
        Checks.parse(front, "lanes 9;");
        front.saveState();
        front.feed(0x6d6f763b, 0x6d6f763b, 0x6d6f763b, 0, 0);
        front.truncate(12);
        front.undo();
        Checks.same("cycles", front.count(9), 0);
        Checks.same("code", front.errorCode(), 2);
        Checks.same("offset", front.errorOffset(), 6);
        Checks.holds("output", Checks.output(front).equals("1 add"));
        Checks.fails("buffer is no longer", front.truncate(13));
        Checks.holds("buffer is no shorter", front.truncate(12));
        Checks.same("saved state", front.restoreState(), 1);
        Checks.same("bytes of the buffer", front.parse(), 3);
    }

    private static void orderOfExceptions() {
        Checks.sentence("Exceptions: if several ones apply, IndexOutOfBoundsException comes first, then "
                + "IllegalArgumentException, then IllegalStateException, then NoSuchElementException.");
        FusionFront front = Checks.made("fuse nop nop;fuse nop add;fuse nop mov;fuse nop load;fuse nop cmp;fuse nop test;");
        Checks.throwsOne("first, and 6 rules", NO_ARGUMENT, () -> front.addRule(8, 0));
        Checks.throwsOne("second, and 6 rules", NO_ARGUMENT, () -> front.addRule(0, 10));
        Checks.throwsOne("6 rules", NO_STATE, () -> front.addRule(7, 9));
        Checks.throwsOne("such a rule, and 6 rules", NO_STATE, () -> front.addRule(0, 0));
        Checks.throwsOne("no number, no property", NO_INDEX, () -> front.instruction(0, 8));
    }

    private static void runs() {
        Checks.sentence("`cycles`: 1 to 500 Returns the number of instructions that are decoded in them. Throws "
                + "`IllegalArgumentException` if cycles is out of range");
        FusionFront front = Checks.made("lanes 1;loop 2;nop;jump back 1;");
        Checks.throwsOne("0", NO_ARGUMENT, () -> front.run(0));
        Checks.throwsOne("-1", NO_ARGUMENT, () -> front.run(-1));
        Checks.throwsOne("501", NO_ARGUMENT, () -> front.run(501));
        for (int far : FAR) {
            Checks.throwsOne("run " + far, NO_ARGUMENT, () -> front.run(far));
        }
        Checks.same("1", front.run(1), 0);
        Checks.same("1 more", front.run(1), 1);
        Checks.same("500", front.run(500), 500);
        Checks.same("cycles", front.count(9), 502);
        Checks.same("decoded", front.count(10), 501);
        Checks.same("the empty program", new FusionFront().run(500), 0);
    }

    private static void runsTo() {
        Checks.sentence("`many`: 0 to 9999 Returns the number of cycles that passed. Throws "
                + "`IllegalArgumentException` if many is out of range");
        FusionFront front = Checks.made("lanes 1;loop 2;nop;jump back 1;");
        Checks.throwsOne("-1", NO_ARGUMENT, () -> front.runTo(-1));
        Checks.throwsOne("10000", NO_ARGUMENT, () -> front.runTo(10000));
        for (int far : FAR) {
            Checks.throwsOne("runTo " + far, NO_ARGUMENT, () -> front.runTo(far));
        }
        Checks.same("0 of 0", front.runTo(0), 0);
        Checks.same("9999", front.runTo(9999), 500);
        Checks.same("cycles", front.count(9), 500);
        Checks.sentence("Lets cycles pass until so many instructions are decoded in all, at most 500 cycles.");
        // Cycle 1 decodes none, each other one decodes one.
        for (int many = 497; many <= 502; many++) {
            FusionFront next = Checks.made("lanes 1;loop 2;nop;jump back 1;");
            Checks.same("to " + many, next.runTo(many), Math.min(many + 1, 500));
            Checks.same("decoded of " + many, next.count(10), Math.min(many, 499));
        }
        Checks.same("one less than there are", front.runTo(498), 0);
        Checks.same("as many as there are", front.runTo(499), 0);
        Checks.same("one more than there are", front.runTo(500), 1);
        Checks.same("500 more", front.runTo(1000), 500);
        FusionFront lanes = Checks.made("lanes 3;nop;nop;nop;nop;");
        Checks.same("more at once", lanes.runTo(1), 2);
        Checks.same("three", lanes.count(10), 3);
        Checks.same("the end", lanes.runTo(5), 500);
        FusionFront far = Checks.made("lanes 6;rate 8;loop 2;nop;jump back 1;");
        far.runTo(9999);
        far.runTo(9999);
        far.runTo(9999);
        Checks.same("three times 500 cycles", far.count(9), 1500);
        int cycles = far.runTo(9999);
        Checks.holds("9999 are there", far.count(10) >= 9999 && far.count(10) < 9999 + 6);
        Checks.same("cycles to 9999", far.count(9), 1500 + cycles);
    }

    private static void stalls() {
        Checks.sentence("Stalls the front end for so many cycles, in place of an earlier stall.");
        FusionFront front = Checks.made("nop;");
        Checks.same("99", front.stall(99), 0);
        Checks.same("there", front.count(23), 99);
        Checks.same("1 in place of 99", front.stall(1), 99);
        Checks.same("there", front.count(23), 1);
        front.run(1);
        Checks.same("over", front.count(23), 0);
        front.run(1);
        Checks.same("still over", front.count(23), 0);
        Checks.sentence("Returns the cycles of the earlier stall that were left.");
        Checks.same("none", front.stall(3), 0);
        front.run(2);
        Checks.same("one", front.stall(0), 1);
        Checks.same("0 in place of it", front.count(23), 0);
        Checks.same("none again", front.stall(99), 0);
        Checks.sentence("`cycles`: 0 to 99 Returns the cycles of the earlier stall that were left. Throws "
                + "`IllegalArgumentException` if cycles is out of range");
        Checks.throwsOne("-1", NO_ARGUMENT, () -> front.stall(-1));
        Checks.throwsOne("100", NO_ARGUMENT, () -> front.stall(100));
        for (int far : FAR) {
            Checks.throwsOne("stall " + far, NO_ARGUMENT, () -> front.stall(far));
        }
        Checks.same("99 stay", front.count(23), 99);
    }

    private static void settings() {
        Checks.sentence("`what`: 2 lanes, 6 rate, 7 loop");
        for (int what = -3; what <= 30; what++) {
            int one = what;
            FusionFront front = Checks.made("nop;");
            if (what == 2 || what == 6 || what == 7) {
                Checks.same("set " + what, front.set(what, 5), what == 7 ? 0 : 4);
            } else {
                // 8 is allowed for each setting but lanes.
                Checks.throwsOne("set " + what, NO_ARGUMENT, () -> front.set(one, 8));
                Checks.throwsOne("set " + what, NO_ARGUMENT, () -> front.set(one, 4));
            }
        }
        for (int far : FAR) {
            Checks.throwsOne("set " + far, NO_ARGUMENT, () -> Checks.made("nop;").set(far, 4));
        }
        Checks.sentence("`value`: the new value, as in section 1 Returns the value before. Throws "
                + "`IllegalArgumentException` if what is another number, or value is out of range");
        int[][] rows = {{2, 1, 6}, {6, 1, 8}, {7, 0, 30}};
        for (int[] row : rows) {
            FusionFront front = Checks.made("nop;");
            int before = front.count(row[0]);
            for (int value = row[1]; value <= row[2]; value++) {
                Checks.same(row[0] + " to " + value, front.set(row[0], value), before);
                Checks.same(row[0] + " is " + value, front.count(row[0]), value);
                before = value;
            }
            Checks.throwsOne(row[0] + " too small", NO_ARGUMENT, () -> front.set(row[0], row[1] - 1));
            Checks.throwsOne(row[0] + " too great", NO_ARGUMENT, () -> front.set(row[0], row[2] + 1));
            for (int far : FAR) {
                Checks.throwsOne(row[0] + " to " + far, NO_ARGUMENT, () -> front.set(row[0], far));
            }
            Checks.same(row[0] + " stays", front.count(row[0]), row[2]);
        }
    }

    private static void loopGoesOn() {
        Checks.sentence("(A loop that is replayed goes on, whatever loop is then.)");
        FusionFront front = Checks.made("lanes 2;loop 2;nop;jump back 1;");
        front.run(3);
        Checks.same("a loop of 2", front.loop(3), 2);
        for (int loop = 0; loop <= 30; loop += 10) {
            front.set(7, loop);
            Checks.same("it goes on with " + loop, front.run(1), 2);
            Checks.same("it is the same with " + loop, front.loop(1), 1);
        }
        front.set(7, 1);
        front.redirect(0);
        front.run(30);
        Checks.same("none is begun with 1", front.loop(0), FusionFront.NONE);
        front.set(7, 2);
        front.run(9);
        Checks.same("one is begun with 2", front.loop(0), 0);
    }

    private static void addedRules() {
        Checks.sentence("`first`: the first kind, 0 to 7 - `second`: the second kind, 0 to 9 Returns number of the rule. "
                + "Throws `IllegalArgumentException` if first or second is out of range");
        for (int first = -1; first <= 8; first++) {
            for (int second = -1; second <= 10; second++) {
                FusionFront front = new FusionFront();
                int one = first;
                int two = second;
                if (first < 0 || first > 7 || second < 0 || second > 9) {
                    Checks.throwsOne(first + " " + second, NO_ARGUMENT, () -> front.addRule(one, two));
                } else {
                    Checks.same(first + " " + second, front.addRule(first, second), 0);
                    Checks.same("first " + first, front.rule(0, false), first);
                    Checks.same("second " + second, front.rule(0, true), second);
                }
            }
        }
        for (int far : FAR) {
            Checks.throwsOne("first " + far, NO_ARGUMENT, () -> new FusionFront().addRule(far, 0));
            Checks.throwsOne("second " + far, NO_ARGUMENT, () -> new FusionFront().addRule(0, far));
        }
        Checks.sentence("Throws `IllegalStateException` if there is such a rule already, or there are 6 rules");
        FusionFront front = Checks.made("fuse nop add;");
        Checks.throwsOne("of the text", NO_STATE, () -> front.addRule(0, 1));
        for (int rule = 1; rule <= 5; rule++) {
            Checks.same("rule " + rule, front.addRule(rule, 0), rule);
            Checks.same("rules", front.count(8), rule + 1);
        }
        Checks.throwsOne("the 7th", NO_STATE, () -> front.addRule(6, 0));
        Checks.throwsOne("there is such a one", NO_STATE, () -> front.addRule(5, 0));
        Checks.same("six", front.count(8), 6);
        front.removeRule(0);
        Checks.throwsOne("the last of 5", NO_STATE, () -> front.addRule(5, 0));
        Checks.same("the 6th again", front.addRule(0, 1), 5);
        Checks.sentence("Adds a rule of fusion, behind the others.");
        Checks.same("behind", front.rule(5, true), 1);
        Checks.same("the first one", front.rule(0, false), 1);
    }

    private static void removedRules() {
        Checks.sentence("Returns 10 * first kind + second kind.");
        Checks.same("the least one", Checks.made("fuse nop nop;").removeRule(0), 0);
        Checks.same("the greatest one", Checks.made("fuse div branch;").removeRule(0), 79);
        Checks.sentence("Removes a rule of fusion; the numbers of the later ones become 1 less.");
        String six = "fuse nop add;fuse add nop;fuse mov div;fuse div mov;fuse div jump;fuse div branch;";
        int[] kinds = {1, 10, 27, 72, 78, 79};
        for (int removed = 0; removed < 6; removed++) {
            FusionFront front = Checks.made(six);
            Checks.same("removed " + removed, front.removeRule(removed), kinds[removed]);
            Checks.same("five", front.count(8), 5);
            for (int rule = 0; rule < 5; rule++) {
                int due = kinds[rule < removed ? rule : rule + 1];
                Checks.same("rule " + rule, 10 * front.rule(rule, false) + front.rule(rule, true), due);
            }
            Checks.throwsOne("5 of 5", NO_INDEX, () -> front.removeRule(5));
        }
        Checks.sentence("Throws `IndexOutOfBoundsException` if there is no such rule");
        FusionFront front = Checks.made(six);
        Checks.throwsOne("6 of 6", NO_INDEX, () -> front.removeRule(6));
        Checks.throwsOne("-1", NO_INDEX, () -> front.removeRule(-1));
        for (int far : FAR) {
            Checks.throwsOne("rule " + far, NO_INDEX, () -> front.removeRule(far));
        }
        for (int left = 5; left >= 0; left--) {
            front.removeRule(0);
            Checks.same("left", front.count(8), left);
        }
        Checks.throwsOne("0 of none", NO_INDEX, () -> front.removeRule(0));
        Checks.throwsOne("0 of none", NO_INDEX, () -> new FusionFront().removeRule(0));
    }

    private static void redirects() {
        Checks.sentence("Returns the number of instructions that were in the queue.");
        FusionFront front = Checks.made("window 32;queue 20;repeat 6(repeat 9(nop;););repeat 6(nop;);");
        Checks.same("none", front.redirect(0), 0);
        front.run(1);
        Checks.same("a full queue", front.redirect(59), 20);
        Checks.same("empty", front.count(19), 0);
        Checks.same("the last one", front.count(20), 59);
        front.run(1);
        Checks.same("one", front.redirect(1), 1);
        FusionFront loop = Checks.made("lanes 2;loop 2;nop;jump back 1;");
        loop.run(3);
        Checks.same("a loop", loop.redirect(0), 0);
        Checks.sentence("Throws `IndexOutOfBoundsException` if there is no such instruction");
        Checks.throwsOne("60 of 60", NO_INDEX, () -> front.redirect(60));
        Checks.throwsOne("-1", NO_INDEX, () -> front.redirect(-1));
        for (int far : FAR) {
            Checks.throwsOne("number " + far, NO_INDEX, () -> front.redirect(far));
        }
        Checks.throwsOne("0 of none", NO_INDEX, () -> new FusionFront().redirect(0));
    }

    private static void redirectEnds() {
        Checks.sentence("Redirects the front end: the queue becomes empty, a loop ends, the place becomes an "
                + "instruction, there is a pause of 4 cycles; a cut and a length pause end.");
        FusionFront cut = Checks.made("window 8;lanes 1;mov;mov;mov;");
        cut.run(1);
        Checks.holds("cut", cut.isCut());
        cut.redirect(0);
        Checks.fails("not cut", cut.isCut());
        Checks.same("empty", cut.count(19), 0);
        Checks.same("place", cut.count(20), 0);
        Checks.same("pause", cut.count(21), 4);
        cut.run(1);
        Checks.queue("the first window again", cut, 0, 1);
        cut.redirect(2);
        Checks.same("a pause anew", cut.count(21), 4);
        FusionFront pause = Checks.made("lanes 1;long nop;nop;");
        pause.run(1);
        Checks.same("length pause", pause.count(22), 3);
        pause.redirect(1);
        Checks.same("no length pause", pause.count(22), 0);
        pause.run(1);
        Checks.queue("fetched at once", pause, 1);
        FusionFront loop = Checks.made("lanes 2;loop 2;nop;jump back 1;nop;");
        loop.run(3);
        Checks.same("a loop", loop.loop(0), 0);
        loop.redirect(2);
        Checks.same("no loop", loop.loop(0), FusionFront.NONE);
        loop.run(1);
        Checks.queue("fetched at once", loop, 2);
        Checks.same("the end", loop.count(20), 3);
    }

    private static void undos() {
        Checks.sentence("Returns the number of changes that can still be undone.");
        FusionFront front = Checks.made("nop;");
        Checks.sentence("Throws `IllegalStateException` if there is none");
        Checks.throwsOne("none", NO_STATE, front::undo);
        front.run(1);
        Checks.same("the only one", front.undo(), 0);
        Checks.throwsOne("none left", NO_STATE, front::undo);
        front.run(1);
        front.saveState();
        front.restoreState();
        Checks.throwsOne("behind restoreState", NO_STATE, front::undo);
        front.run(1);
        front.parse();
        Checks.throwsOne("behind parse", NO_STATE, front::undo);
    }
}
