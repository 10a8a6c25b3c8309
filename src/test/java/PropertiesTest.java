import java.util.NoSuchElementException;

/** Promises 7 to 19: what there is. */
public final class PropertiesTest {
    private static final Class<IndexOutOfBoundsException> NO_INDEX = IndexOutOfBoundsException.class;
    private static final Class<IllegalArgumentException> NO_ARGUMENT = IllegalArgumentException.class;

    private PropertiesTest() {
    }

    public static void main(String[] args) {
        counts();
        instructions();
        predictions();
        addresses();
        windows();
        pairs();
        loopables();
        kinds();
        rules();
        queue();
        loops();
        cut();
        Checks.end();
    }

    private static void counts() {
        FusionFront front = Checks.made("lanes 2;window 32;queue 5;ops 6;rate 1;loop 7;fuse add mov;fuse mov add;"
                + "load;long div;add;mov;");
        int[] first = {4, 13, 2, 32, 5, 6, 1, 7, 2};
        for (int what = 0; what < first.length; what++) {
            Checks.same("count " + what, front.count(what), first[what]);
        }
        front.run(6);
        front.stall(3);
        // Cycle 2 decodes the load, 3 the div, 6 the pair; the pause behind the long one ends in cycle 4.
        int[] then = {6, 4, 6, 1, 1, 0, 0, 0, 0, 2, 0, 4, 0, 0, 3, 2};
        for (int index = 0; index < then.length; index++) {
            Checks.same("count " + (9 + index), front.count(9 + index), then[index]);
        }
        Checks.same("-1", front.count(-1), FusionFront.NONE);
        Checks.same("25", front.count(25), FusionFront.NONE);
        Checks.same("least", front.count(Integer.MIN_VALUE), FusionFront.NONE);
        Checks.same("greatest", front.count(Integer.MAX_VALUE), FusionFront.NONE);
    }

    private static void instructions() {
        String all = "nop;add;mov;load;store;cmp;test;div;jump back 3;branch ahead 1 times 7;";
        String longs = all.replace(";", ";long ");
        FusionFront front = Checks.made(all + "long " + longs.substring(0, longs.length() - 5));
        int[] lengths = {1, 2, 3, 4, 4, 3, 2, 3, 2, 2};
        int[] ops = {1, 1, 1, 1, 2, 1, 1, 4, 1, 1};
        int address = 0;
        for (int number = 0; number < 20; number++) {
            int kind = number % 10;
            int isLong = number / 10;
            Checks.same("kind " + number, front.instruction(number, 0), kind);
            Checks.same("address " + number, front.instruction(number, 1), address);
            Checks.same("length " + number, front.instruction(number, 2), lengths[kind] + isLong);
            Checks.same("ops " + number, front.instruction(number, 3), ops[kind]);
            int target = kind == 8 ? number - 3 : kind == 9 ? Math.min(number + 2, 20) : FusionFront.NONE;
            Checks.same("target " + number, front.instruction(number, 4), target);
            Checks.same("times " + number, front.instruction(number, 5), kind == 9 ? 7 : FusionFront.NONE);
            Checks.same("long " + number, front.instruction(number, 6), isLong);
            int predicted = kind == 8 ? 1 : kind == 9 ? 0 : FusionFront.NONE;
            Checks.same("predicted " + number, front.instruction(number, 7), predicted);
            address += lengths[kind] + isLong;
        }
        Checks.same("bytes", front.count(1), address);
        Checks.throwsOne("number -1", NO_INDEX, () -> front.instruction(-1, 0));
        Checks.throwsOne("number 20", NO_INDEX, () -> front.instruction(20, 0));
        Checks.throwsOne("what -1", NO_INDEX, () -> front.instruction(0, -1));
        Checks.throwsOne("what 8", NO_INDEX, () -> front.instruction(0, 8));
        Checks.throwsOne("greatest", NO_INDEX, () -> front.instruction(Integer.MAX_VALUE, 0));
        Checks.throwsOne("empty", NO_INDEX, () -> new FusionFront().instruction(0, 0));
    }

    private static void predictions() {
        FusionFront front = Checks.made("loop 9;add;branch back 1 times 4;load;");
        Checks.same("not yet decoded", front.instruction(1, 7), 0);
        front.run(2);
        Checks.same("taken", front.instruction(1, 7), 1);
        front.run(5);
        Checks.same("in the loop", front.loop(1), 1);
        front.run(2);
        Checks.same("not taken, from the loop", front.instruction(1, 7), 0);
    }

    private static void addresses() {
        FusionFront front = Checks.made("nop;long div;mov;");
        int[] at = {0, 1, 1, 1, 1, 2, 2, 2};
        for (int address = 0; address < at.length; address++) {
            Checks.same("at " + address, front.at(address), at[address]);
        }
        Checks.same("behind", front.at(8), FusionFront.NONE);
        Checks.same("before", front.at(-1), FusionFront.NONE);
        Checks.same("greatest", front.at(Integer.MAX_VALUE), FusionFront.NONE);
        Checks.same("least", front.at(Integer.MIN_VALUE), FusionFront.NONE);
        Checks.same("empty", new FusionFront().at(0), FusionFront.NONE);
    }

    private static void windows() {
        String lines = "load;load;mov;add;load;nop;div;mov;load;long store;";
        // Addresses 0, 4, 8, 11, 13, 17, 18, 21, 24, 28; the end is 33.
        // Each row has the window and the instructions that cross; bytes 21 to 23 end where a window ends.
        int[][] rows = {{8, 4, 9}, {16, 4, 9}, {32, 9}};
        for (int[] row : rows) {
            FusionFront front = Checks.made("window " + row[0] + ";" + lines);
            for (int number = 0; number < 10; number++) {
                boolean due = number == row[1] || number == row[row.length - 1];
                Checks.same("window " + row[0] + " crosses " + number, front.crosses(number) ? 1 : 0, due ? 1 : 0);
            }
            Checks.same("window " + row[0] + " crossing", front.crossing(), row.length - 1);
            Checks.throwsOne("-1", NO_INDEX, () -> front.crosses(-1));
            Checks.throwsOne("10", NO_INDEX, () -> front.crosses(10));
        }
        Checks.same("empty", new FusionFront().crossing(), 0);
    }

    private static void pairs() {
        FusionFront front = Checks.made("window 8;fuse add mov;fuse mov mov;fuse mov add;fuse add branch;"
                + "add;mov;mov;add;long mov;add;mov;long add;branch back 1 times 1;add;");
        // Addresses 0, 2, 5, 8, 10, 14, 16, 19, 22, 24: 2 and 3, 5 and 6 are in two windows.
        boolean[] due = {true, true, false, false, false, false, false, false, false, false};
        for (int number = 0; number < due.length; number++) {
            Checks.same("fuses " + number, front.fuses(number) ? 1 : 0, due[number] ? 1 : 0);
        }
        Checks.same("fusable", front.fusable(), 2);
        front.removeRule(0);
        Checks.fails("rule is gone", front.fuses(0));
        Checks.same("one less", front.fusable(), 1);
        Checks.throwsOne("-1", NO_INDEX, () -> front.fuses(-1));
        Checks.throwsOne("10", NO_INDEX, () -> front.fuses(10));
        FusionFront last = Checks.made("fuse add add;fuse add jump;add;add;jump back 1;add;");
        Checks.holds("add and add", last.fuses(0));
        Checks.holds("add and jump", last.fuses(1));
        Checks.fails("the last one", last.fuses(3));
        Checks.same("each for itself", last.fusable(), 2);
        Checks.same("empty", new FusionFront().fusable(), 0);
    }

    private static void loopables() {
        FusionFront front = Checks.made("loop 7;nop;store;jump back 2;branch back 1 times 2;div;jump back 1;"
                + "branch ahead 0 times 1;jump back 2;div;div;jump ahead 3;");
        boolean[] due = {false, false, true, false, false, true, false, false, false, false, false};
        for (int number = 0; number < due.length; number++) {
            Checks.same("loopable " + number, front.isLoopable(number) ? 1 : 0, due[number] ? 1 : 0);
        }
        front.set(7, 4);
        Checks.holds("4 ops", front.isLoopable(2));
        Checks.fails("5 ops", front.isLoopable(5));
        front.set(7, 3);
        Checks.fails("loop is 3", front.isLoopable(2));
        front.set(7, 5);
        Checks.holds("loop is 5", front.isLoopable(5));
        Checks.throwsOne("-1", NO_INDEX, () -> front.isLoopable(-1));
        Checks.throwsOne("11", NO_INDEX, () -> front.isLoopable(11));
    }

    private static void kinds() {
        FusionFront front = Checks.made("nop;repeat 2(add;long add;);mov;branch back 2 times 2;");
        Checks.same("add", front.ofKind(1, false), 4);
        Checks.same("branch", front.ofKind(9, false), 1);
        Checks.same("div", front.ofKind(7, false), 0);
        Checks.same("not yet", front.ofKind(1, true), 0);
        front.run(60);
        // The second add of the second copy stands in the loop of the branch, with the mov.
        Checks.same("adds that were decoded", front.ofKind(1, true), 6);
        Checks.same("movs that were decoded", front.ofKind(2, true), 3);
        Checks.same("branches that were decoded", front.ofKind(9, true), 3);
        Checks.same("nops that were decoded", front.ofKind(0, true), 1);
        Checks.throwsOne("-1", NO_ARGUMENT, () -> front.ofKind(-1, true));
        Checks.throwsOne("10", NO_ARGUMENT, () -> front.ofKind(10, false));
    }

    private static void rules() {
        FusionFront front = Checks.made("fuse cmp branch;fuse nop div;");
        Checks.same("first of 0", front.rule(0, false), 5);
        Checks.same("second of 0", front.rule(0, true), 9);
        Checks.same("first of 1", front.rule(1, false), 0);
        Checks.same("second of 1", front.rule(1, true), 7);
        Checks.throwsOne("-1", NO_INDEX, () -> front.rule(-1, true));
        Checks.throwsOne("2", NO_INDEX, () -> front.rule(2, false));
        Checks.throwsOne("none", NO_INDEX, () -> new FusionFront().rule(0, false));
    }

    private static void queue() {
        FusionFront front = Checks.made("lanes 2;queue 3;nop;add;mov;cmp;");
        Checks.throwsOne("empty", NoSuchElementException.class, () -> front.queueAt(0));
        front.run(1);
        Checks.same("0", front.queueAt(0), 0);
        Checks.same("2", front.queueAt(2), 2);
        Checks.throwsOne("3", NoSuchElementException.class, () -> front.queueAt(3));
        Checks.throwsOne("-1", NoSuchElementException.class, () -> front.queueAt(-1));
        front.run(1);
        Checks.same("first now", front.queueAt(0), 2);
        Checks.same("last now", front.queueAt(1), 3);
        Checks.throwsOne("2", NoSuchElementException.class, () -> front.queueAt(2));
    }

    private static void loops() {
        FusionFront front = Checks.made("lanes 2;loop 9;nop;add;store;jump back 2;");
        for (int what = 0; what <= 3; what++) {
            Checks.same("no loop " + what, front.loop(what), FusionFront.NONE);
        }
        Checks.throwsOne("-1", NO_ARGUMENT, () -> front.loop(-1));
        Checks.throwsOne("4", NO_ARGUMENT, () -> front.loop(4));
        front.run(8);
        Checks.same("begun", front.count(16), 1);
        front.redirect(0);
        Checks.same("ended", front.loop(3), FusionFront.NONE);
        FusionFront other = Checks.made("lanes 1;loop 9;nop;add;store;jump back 2;");
        other.runTo(7);
        int[] due = {1, 3, 1, 4};
        for (int what = 0; what <= 3; what++) {
            Checks.same("loop " + what, other.loop(what), due[what]);
        }
        other.run(1);
        Checks.same("next", other.loop(2), 2);
    }

    private static void cut() {
        FusionFront front = Checks.made("window 8;load;mov;mov;nop;");
        Checks.fails("at first", front.isCut());
        front.run(1);
        Checks.holds("mov", front.isCut());
        Checks.same("its number", front.count(20), 2);
        front.run(1);
        Checks.fails("read", front.isCut());
        front.undo();
        front.redirect(0);
        Checks.fails("redirect ends it", front.isCut());
    }
}
