/** Promises 46 to 49 at the bounds: each check stands behind the sentence that it is about. */
public final class OutputBoundsTest {
    private static final Class<IndexOutOfBoundsException> NO_INDEX = IndexOutOfBoundsException.class;
    private static final Class<IllegalStateException> NO_STATE = IllegalStateException.class;
    private static final int[] FAR = {Integer.MIN_VALUE, -100, 100, Integer.MAX_VALUE};

    private OutputBoundsTest() {
    }

    public static void main(String[] args) {
        lines();
        shortestAndLongest();
        plusSigns();
        inPlaceOf();
        noSuchInstruction();
        bytes();
        saved();
        savedAnew();
        whatIsNotSaved();
        restored();
        noState();
        Checks.end();
    }

    private static void line(FusionFront front, int number, String due) {
        Checks.same(due + " length", front.printInstruction(number), due.length());
        Checks.holds(due + " is " + Checks.output(front), Checks.output(front).equals(due));
    }

    private static void lines() {
        Checks.sentence("Writes an instruction to the output, in place of the text before: its address, a space, "
                + "\"long\" and a space if it is long, the word of its kind, and, if it is a jump or a branch, a space "
                + "and the number of its target (see instruction);");
        FusionFront front = Checks.made("nop;add;mov;load;store;cmp;test;div;jump back 8;branch ahead 0 times 99;"
                + "long nop;long jump ahead 9;");
        String[] due = {"0 nop", "1 add", "3 mov", "6 load", "10 store", "14 cmp", "17 test", "19 div", "22 jump 0",
            "24 branch 10", "26 long nop", "28 long jump 12"};
        for (int number = 0; number < due.length; number++) {
            line(front, number, due[number]);
        }
    }

    private static void shortestAndLongest() {
        Checks.sentence("Returns the number of bytes.");
        Checks.same("shortest", Checks.made("nop;").printInstruction(0), 5);
        // 60 long ones: the addresses reach 9, 10, 99, 100 and beyond.
        FusionFront front = Checks.made("repeat 6(repeat 9(long nop;););long store;long store;long store;"
                + "long branch back 9 times 1;long branch ahead 0 times 1;long branch ahead 9 times 99;");
        line(front, 4, "8 long nop");
        line(front, 5, "10 long nop");
        line(front, 49, "98 long nop");
        line(front, 50, "100 long nop");
        line(front, 57, "123 long branch 48");
        line(front, 58, "126 long branch 59");
        line(front, 59, "129 long branch 60");
        FusionFront far = Checks.made("repeat 6(repeat 9(long store;););long store;long store;long store;long store;"
                + "long branch back 58 times 1;long branch back 50 times 1;");
        line(far, 58, "290 long branch 0");
        line(far, 59, "293 long branch 9");
        line(far, 19, "95 long store");
        line(far, 20, "100 long store");
        line(far, 40, "200 long store");
        FusionFront digits = Checks.made("repeat 6(repeat 6(long store;););repeat 6(mov;);nop;nop;nop;");
        line(digits, 41, "195 mov");
        line(digits, 42, "198 nop");
        line(digits, 43, "199 nop");
        line(digits, 44, "200 nop");
    }

    private static void plusSigns() {
        Checks.sentence("then a plus sign if it would be fused with the next one (see fuses).");
        FusionFront front = Checks.made("fuse add jump;add;jump back 1;add;");
        line(front, 0, "0 add+");
        line(front, 1, "2 jump 0");
        line(front, 2, "4 add");
        FusionFront same = Checks.made("fuse add add;add;add;add;");
        line(same, 0, "0 add+");
        line(same, 1, "2 add+");
        line(same, 2, "4 add");
        same.removeRule(0);
        line(same, 0, "0 add");
        same.undo();
        line(same, 0, "0 add+");
        FusionFront edge = Checks.made("window 8;fuse add add;repeat 6(add;);");
        line(edge, 2, "4 add+");
        line(edge, 3, "6 add");
    }

    private static void inPlaceOf() {
        Checks.sentence("in place of the text before");
        FusionFront front = Checks.made("long nop;nop;");
        line(front, 0, "0 long nop");
        line(front, 1, "2 nop");
        Checks.same("nothing is left of the text before", front.outputByte(5), FusionFront.NONE);
    }

    private static void noSuchInstruction() {
        Checks.sentence("Throws `IndexOutOfBoundsException` if there is no such instruction");
        FusionFront front = Checks.made("nop;add;");
        front.printInstruction(1);
        Checks.throwsOne("-1", NO_INDEX, () -> front.printInstruction(-1));
        Checks.throwsOne("2 of 2", NO_INDEX, () -> front.printInstruction(2));
        for (int far : FAR) {
            Checks.throwsOne("number " + far, NO_INDEX, () -> front.printInstruction(far));
        }
        Checks.throwsOne("0 of none", NO_INDEX, () -> new FusionFront().printInstruction(0));
        Checks.holds("the text before stays", Checks.output(front).equals("1 add"));
    }

    private static void bytes() {
        Checks.sentence("Returns the byte; NONE if there is no such byte.");
        FusionFront front = Checks.made("nop;add;");
        Checks.same("nothing is written", front.outputByte(0), FusionFront.NONE);
        front.printInstruction(1);
        Checks.same("the first one", front.outputByte(0), '1');
        Checks.same("the second one", front.outputByte(1), ' ');
        Checks.same("the last one", front.outputByte(4), 'd');
        Checks.same("behind it", front.outputByte(5), FusionFront.NONE);
        Checks.same("before it", front.outputByte(-1), FusionFront.NONE);
        for (int far : FAR) {
            Checks.same("byte " + far, front.outputByte(far), FusionFront.NONE);
        }
        for (int index = 5; index < 99; index++) {
            Checks.same("byte " + index, front.outputByte(index), FusionFront.NONE);
        }
    }

    private static void saved() {
        Checks.sentence("Returns the cycles that have passed.");
        FusionFront front = Checks.made("nop;");
        Checks.same("none", front.saveState(), 0);
        Checks.same("none, restored", front.restoreState(), 0);
        front.run(500);
        Checks.same("500", front.saveState(), 500);
        front.run(1);
        Checks.same("500, restored", front.restoreState(), 500);
        Checks.same("500 have passed", front.count(9), 500);
    }

    private static void savedAnew() {
        Checks.sentence("in place of an earlier saved state.");
        FusionFront front = Checks.made("lanes 1;nop;nop;nop;");
        front.run(1);
        front.saveState();
        front.run(1);
        front.saveState();
        front.run(1);
        Checks.same("the later one", front.restoreState(), 2);
        Checks.same("and no other", front.restoreState(), 2);
        Checks.same("decoded", front.count(10), 1);
    }

    private static void whatIsNotSaved() {
        Checks.sentence("Saves everything but the input buffer, the error, the output and the changes that can be "
                + "undone,");
        FusionFront front = Checks.made("nop;add;");
        front.printInstruction(0);
        front.run(1);
        front.stall(9);
        front.feed(0x6e6f703b, 0x6e6f703b, 0x6e6f703b, 0, 0);
        front.truncate(12);
        front.saveState();
        Checks.same("the changes stay", front.count(24), 2);
        Checks.same("and can be undone", front.undo(), 1);
        Checks.parse(front, "");
        FusionFront other = Checks.made("nop;add;");
        other.printInstruction(0);
        other.saveState();
        other.printInstruction(1);
        Checks.parse(other, "lanes 9;");
        other.feed(0x6d6f763b, 0x6d6f763b, 0x6d6f763b, 0, 0);
        other.truncate(12);
        other.restoreState();
        Checks.holds("the output stays", Checks.output(other).equals("1 add"));
        Checks.same("the code stays", other.errorCode(), 2);
        Checks.same("the offset stays", other.errorOffset(), 6);
        Checks.same("the buffer stays", other.parse(), 3);
    }

    private static void restored() {
        Checks.sentence("Restores the saved state, which stays saved. Nothing can be undone then.");
        String text = "lanes 3;loop 9;fuse add mov;add;mov;branch back 2 times 6;load;jump back 4;";
        for (int cycles = 0; cycles <= 14; cycles++) {
            FusionFront front = Checks.made(text);
            FusionFront twin = Checks.made(text);
            for (FusionFront one : new FusionFront[] {front, twin}) {
                one.runTo(0);
                for (int cycle = 0; cycle < cycles; cycle++) {
                    one.run(1);
                }
            }
            front.saveState();
            for (int time = 0; time < 2; time++) {
                front.set(2, 6);
                front.set(6, 1);
                front.set(7, 0);
                front.addRule(3, 8);
                front.removeRule(0);
                front.redirect(3);
                front.stall(9);
                front.run(7);
                Checks.same("cycles " + cycles, front.restoreState(), cycles);
                Checks.same("no changes", front.count(24), 0);
                Checks.throwsOne("undo", NO_STATE, front::undo);
                Twins.same("restored " + cycles, front, twin);
            }
            Checks.same("goes on", front.run(30), twin.run(30));
            Checks.same("one change", front.count(24), 1);
        }
    }

    private static void noState() {
        Checks.sentence("Throws `IllegalStateException` if no state is saved");
        FusionFront front = new FusionFront();
        Checks.throwsOne("a new object", NO_STATE, front::restoreState);
        front.saveState();
        Checks.same("the empty program", front.restoreState(), 0);
        Checks.same("a text with an error", Checks.parse(front, "x"), FusionFront.NONE);
        Checks.same("leaves it", front.restoreState(), 0);
        Checks.same("a text without", Checks.parse(front, "nop;"), 1);
        Checks.throwsOne("ends it", NO_STATE, front::restoreState);
        front.run(1);
        front.undo();
        Checks.throwsOne("undo saves none", NO_STATE, front::restoreState);
    }
}
