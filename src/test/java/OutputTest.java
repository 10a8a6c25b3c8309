/** Promises 46 to 49: the output and the saved state. */
public final class OutputTest {
    private OutputTest() {
    }

    public static void main(String[] args) {
        lines();
        outputStays();
        savedState();
        wholeState();
        Checks.end();
    }

    private static void line(FusionFront front, int number, String due) {
        Checks.same(due + " length", front.printInstruction(number), due.length());
        Checks.holds(due + " is not " + Checks.output(front), Checks.output(front).equals(due));
    }

    private static void lines() {
        FusionFront front = Checks.made("fuse mov load;fuse load store;fuse cmp branch;fuse test jump;"
                + "nop;add;mov;load;store;cmp;test;div;jump back 8;branch ahead 9 times 5;"
                + "long mov;long jump ahead 0;cmp;branch back 1 times 2;test;jump back 15;nop;");
        line(front, 0, "0 nop");
        line(front, 1, "1 add");
        line(front, 2, "3 mov+");
        line(front, 3, "6 load+");
        line(front, 4, "10 store");
        line(front, 5, "14 cmp");
        line(front, 6, "17 test");
        line(front, 7, "19 div");
        line(front, 8, "22 jump 0");
        line(front, 9, "24 branch 17");
        line(front, 10, "26 long mov");
        line(front, 11, "30 long jump 12");
        line(front, 12, "33 cmp+");
        line(front, 13, "36 branch 12");
        line(front, 14, "38 test+");
        line(front, 15, "40 jump 0");
        line(front, 16, "42 nop");
        front.removeRule(2);
        line(front, 12, "33 cmp");
        Checks.throwsOne("-1", IndexOutOfBoundsException.class, () -> front.printInstruction(-1));
        Checks.throwsOne("17", IndexOutOfBoundsException.class, () -> front.printInstruction(17));
        Checks.holds("the text before stays", Checks.output(front).equals("33 cmp"));
        FusionFront far = Checks.made("repeat 6(repeat 9(long store;););long store;long store;long store;"
                + "long branch back 57 times 1;long branch ahead 0 times 1;long branch ahead 0 times 1;");
        line(far, 20, "100 long store");
        line(far, 57, "285 long branch 0");
        line(far, 58, "288 long branch 59");
        line(far, 59, "291 long branch 60");
    }

    private static void outputStays() {
        FusionFront front = Checks.made("nop;add;");
        Checks.same("nothing", front.outputByte(0), FusionFront.NONE);
        front.printInstruction(1);
        Checks.same("digit", front.outputByte(0), '1');
        Checks.same("space", front.outputByte(1), 32);
        Checks.same("last", front.outputByte(4), 'd');
        Checks.same("behind", front.outputByte(5), FusionFront.NONE);
        Checks.same("before", front.outputByte(-1), FusionFront.NONE);
        Checks.same("greatest", front.outputByte(Integer.MAX_VALUE), FusionFront.NONE);
        front.saveState();
        front.run(1);
        front.undo();
        front.restoreState();
        Checks.holds("stays", Checks.output(front).equals("1 add"));
        Checks.parse(front, "mov;");
        Checks.holds("stays behind parse", Checks.output(front).equals("1 add"));
    }

    private static void savedState() {
        FusionFront front = Checks.made("lanes 2;nop;add;mov;");
        Checks.throwsOne("none", IllegalStateException.class, front::restoreState);
        front.run(2);
        Checks.same("saved", front.saveState(), 2);
        Checks.same("changes stay", front.count(24), 1);
        front.run(7);
        Checks.same("restored", front.restoreState(), 2);
        Checks.same("cycles", front.count(9), 2);
        Checks.same("decoded", front.count(10), 2);
        Checks.same("nothing can be undone", front.count(24), 0);
        Checks.throwsOne("undo", IllegalStateException.class, front::undo);
        front.run(3);
        Checks.same("still saved", front.restoreState(), 2);
        front.run(3);
        Checks.same("in place of it", front.saveState(), 5);
        front.undo();
        Checks.same("undo leaves it", front.restoreState(), 5);
        Checks.parse(front, "x");
        Checks.same("a bad text leaves it", front.restoreState(), 5);
        Checks.same("so it leaves the code", front.errorCode(), 1);
        front.feed(0x6e6f703b, 0x6e6f703b, 0, 0, 0);
        front.truncate(8);
        front.restoreState();
        Checks.same("the buffer stays", front.parse(), 2);
        Checks.throwsOne("a good text ends it", IllegalStateException.class, front::restoreState);
    }

    private static void wholeState() {
        FusionFront front = Checks.made("lanes 3;loop 9;fuse add mov;add;mov;branch back 2 times 6;load;jump back 4;");
        front.run(9);
        front.stall(5);
        front.set(2, 5);
        front.addRule(3, 8);
        front.saveState();
        int[] before = new int[24];
        for (int what = 0; what < 24; what++) {
            before[what] = front.count(what);
        }
        int comes = front.run(33);
        int latest = front.decoded(0);
        front.removeRule(0);
        front.set(7, 0);
        front.redirect(3);
        front.restoreState();
        for (int what = 0; what < 24; what++) {
            Checks.same("restored " + what, front.count(what), before[what]);
        }
        Checks.same("rule", front.rule(0, false), 1);
        Checks.same("goes on in the same way", front.run(33), comes);
        Checks.same("latest", front.decoded(0), latest);
        Checks.holds("agrees", front.agrees());
    }
}
