/** Promises 1 to 6: a new object, the input buffer, and parse with its errors. */
public final class SetupTest {
    private static final String REPEAT_60 = "repeat 6(repeat 5(nop;add;););";

    private SetupTest() {
    }

    public static void main(String[] args) {
        newObject();
        feedAppends();
        truncateShortens();
        parseSucceeds();
        parseFails();
        tokens();
        settings();
        rules();
        repeats();
        targets();
        tooMany();
        Checks.end();
    }

    private static void newObject() {
        FusionFront front = new FusionFront();
        int[] counts = {0, 0, 4, 16, 8, 16, 4, 0, 0, 0, 0, 0, 0, 0, 0, 0, 0, 0, 0, 0, 0, 0, 0, 0, 0};
        for (int what = 0; what < counts.length; what++) {
            Checks.same("new count " + what, front.count(what), counts[what]);
        }
        Checks.same("new code", front.errorCode(), 0);
        Checks.same("new offset", front.errorOffset(), FusionFront.NONE);
        Checks.same("new output", front.outputByte(0), FusionFront.NONE);
        Checks.fails("new truncate", front.truncate(1));
        Checks.same("new buffer", front.feed(0, 0, 0, 0, 0), 20);
        Checks.throwsOne("new undo", IllegalStateException.class, front::undo);
        Checks.throwsOne("new restore", IllegalStateException.class, front::restoreState);
        Checks.same("empty text", new FusionFront().parse(), 0);
    }

    private static void feedAppends() {
        FusionFront front = new FusionFront();
        for (int many = 20; many <= 600; many += 20) {
            Checks.same("feed to " + many, front.feed(-1, 0, 1, 2, 3), many);
        }
        Checks.same("feed beyond 600", front.feed(0, 0, 0, 0, 0), FusionFront.NONE);
        Checks.holds("still 600", front.truncate(600));
        Checks.holds("to 581", front.truncate(581));
        Checks.same("601 is too much", front.feed(0, 0, 0, 0, 0), FusionFront.NONE);
        Checks.holds("to 580", front.truncate(580));
        Checks.same("580 and 20", front.feed(0, 0, 0, 0, 0), 600);
        FusionFront other = new FusionFront();
        // "nop;" five times, in all five parameters.
        Checks.same("feed nops", other.feed(0x6e6f703b, 0x6e6f703b, 0x6164643b, 0x6e6f703b, 0x6d6f763b), 20);
        Checks.same("parse nops", other.parse(), 5);
        Checks.same("add of c", other.instruction(2, 0), 1);
        Checks.same("mov of e", other.instruction(4, 0), 2);
    }

    private static void truncateShortens() {
        FusionFront front = new FusionFront();
        Checks.holds("empty to 0", front.truncate(0));
        Checks.fails("negative", front.truncate(-1));
        front.feed(0x6e6f703b, 0x6e6f703b, 0x61610000, 0, 0);
        Checks.fails("longer", front.truncate(21));
        Checks.holds("same", front.truncate(20));
        Checks.holds("shorter", front.truncate(8));
        Checks.fails("back", front.truncate(9));
        Checks.fails("least int", front.truncate(Integer.MIN_VALUE));
        Checks.same("what is left", front.parse(), 2);
    }

    private static void parseSucceeds() {
        FusionFront front = Checks.made("lanes 2;fuse cmp branch;nop;add;");
        front.run(3);
        front.printInstruction(1);
        front.saveState();
        front.stall(7);
        Checks.same("second text", Checks.parse(front, "window 8;nop;"), 1);
        Checks.same("lanes are usual", front.count(2), 4);
        Checks.same("window", front.count(3), 8);
        Checks.same("no rules", front.count(8), 0);
        for (int what = 9; what <= 24; what++) {
            Checks.same("as at first " + what, front.count(what), 0);
        }
        Checks.same("no bubbles", front.mainCause(), FusionFront.NONE);
        Checks.same("output stays", Checks.output(front).length(), "1 add".length());
        Checks.throwsOne("no state is saved", IllegalStateException.class, front::restoreState);
        Checks.throwsOne("nothing to undo", IllegalStateException.class, front::undo);
        Checks.fails("buffer is empty", front.truncate(1));
    }

    private static void parseFails() {
        FusionFront front = Checks.made("lanes 2;fuse cmp branch;nop;add;");
        front.run(3);
        front.saveState();
        front.run(1);
        Checks.same("bad text", Checks.parse(front, "lanes 3;nop;nop;nop;x"), FusionFront.NONE);
        Checks.same("code", front.errorCode(), 1);
        Checks.same("offset", front.errorOffset(), 20);
        Checks.fails("buffer is empty", front.truncate(1));
        Checks.same("instructions stay", front.count(0), 2);
        Checks.same("lanes stay", front.count(2), 2);
        Checks.same("rules stay", front.count(8), 1);
        Checks.same("cycles stay", front.count(9), 4);
        Checks.same("kind stays", front.instruction(1, 0), 1);
        Checks.same("undo stays", front.undo(), 1);
        Checks.same("undone", front.count(9), 3);
        Checks.same("saved state stays", front.restoreState(), 3);
        Checks.same("an error, then none", Checks.parse(front, "nop;"), 1);
        Checks.same("no code", front.errorCode(), 0);
        Checks.same("no offset", front.errorOffset(), FusionFront.NONE);
    }

    private static void tokens() {
        Checks.fine("", 0);
        Checks.fine(" \n ", 0);
        Checks.fine("nop;", 1);
        Checks.fine("  nop\n;\nlong   add ; ", 2);
        Checks.fine("lanes4;window08;queue\n02;long nop;", 1);
        Checks.error("longnop;", 1, 0);
        Checks.error("nop", 1, 3);
        Checks.error("nop  ", 1, 5);
        Checks.error("nop;;", 1, 4);
        Checks.error(";", 1, 0);
        Checks.error("Nop;", 1, 0);
        Checks.error("nOp;", 1, 0);
        Checks.error("nop\t;", 1, 3);
        Checks.error("nop\r;", 1, 3);
        Checks.error("nop" + (char) 0, 1, 3);
        Checks.error("nop" + (char) 1 + ";", 1, 3);
        Checks.error("nop" + (char) 255 + ";", 1, 3);
        Checks.error("nop;(", 1, 4);
        Checks.error("nop;)", 1, 4);
        Checks.error("nop 1;", 1, 4);
        Checks.error("5;", 1, 0);
        Checks.error("nops;", 1, 0);
        Checks.error("no;", 1, 0);
        Checks.error("xop;", 1, 0);
        Checks.error("nopz;", 1, 0);
        Checks.error("nop;z", 1, 4);
        Checks.error("lanes 004;", 1, 6);
        Checks.error("lanes 04 5;", 1, 9);
        Checks.error("long;", 1, 4);
        Checks.error("long long nop;", 1, 5);
        Checks.error("long lanes 4;", 1, 5);
        Checks.error("long repeat 1(nop;);", 1, 5);
        Checks.error("back 1;", 1, 0);
        Checks.error("times 1;", 1, 0);
    }

    private static void settings() {
        String[] words = {"lanes", "window", "queue", "ops", "rate", "loop"};
        int[] least = {1, 8, 2, 4, 1, 0};
        int[] greatest = {6, 32, 20, 40, 8, 30};
        for (int setting = 0; setting < words.length; setting++) {
            String word = words[setting];
            FusionFront front = Checks.made(word + " " + least[setting] + ";");
            Checks.same(word + " least", front.count(2 + setting), least[setting]);
            front = Checks.made(word + " " + greatest[setting] + ";");
            Checks.same(word + " greatest", front.count(2 + setting), greatest[setting]);
            if (least[setting] > 0) {
                Checks.error(word + " " + (least[setting] - 1) + ";", 2, word.length() + 1);
            }
            Checks.error(word + " " + (greatest[setting] + 1) + ";", 2, word.length() + 1);
            Checks.error(word + " " + word, 1, word.length() + 1);
            String first = word + " " + greatest[setting] + ";";
            Checks.error(first + "nop;" + word + " 0", 3, first.length() + 4);
            Checks.error("repeat 1(" + word + " 99;);", 1, 9);
            Checks.error(first + "repeat 2(" + word, 1, first.length() + 9);
        }
        Checks.fine("window 16;lanes 1;queue 2;ops 4;rate 1;loop 0;", 0);
        Checks.error("window 9;", 2, 7);
        Checks.error("window 24;", 2, 7);
    }

    private static void rules() {
        String six = "fuse nop nop;fuse nop add;fuse nop mov;fuse nop load;fuse nop store;fuse nop branch;";
        FusionFront front = Checks.made(six);
        Checks.same("six rules", front.count(8), 6);
        Checks.error(six + "fuse x", 4, six.length());
        Checks.error("repeat 1(fuse nop nop;);", 1, 9);
        Checks.error(six + "repeat 1(fuse", 1, six.length() + 9);
        Checks.error("fuse jump x", 3, 5);
        Checks.error("fuse branch nop;", 3, 5);
        Checks.error("fuse lanes nop;", 1, 5);
        Checks.error("fuse nop;", 1, 8);
        Checks.error("fuse nop long nop;", 1, 9);
        Checks.error("fuse nop nop nop;", 1, 13);
        Checks.error("fuse nop add;fuse nop  add", 3, 23);
        Checks.fine("fuse nop add;fuse add nop;fuse div jump;fuse div branch;", 0);
    }

    private static void repeats() {
        Checks.fine("repeat 1();", 0);
        Checks.fine("repeat 9(repeat 9(););", 0);
        Checks.fine("repeat 3(nop;);", 3);
        Checks.fine("repeat 2(nop;repeat 3(add;mov;);div;);store;", 17);
        FusionFront front = Checks.made("repeat 2(nop;repeat 3(add;mov;);div;);store;");
        int[] kinds = {0, 1, 2, 1, 2, 1, 2, 7, 0, 1, 2, 1, 2, 1, 2, 7, 4};
        for (int number = 0; number < kinds.length; number++) {
            Checks.same("kind " + number, front.instruction(number, 0), kinds[number]);
        }
        Checks.fine("repeat 2(repeat 2(nop;);repeat 2(nop;););repeat 2(repeat 1(nop;););", 10);
        Checks.error("repeat 0(nop;);", 2, 7);
        Checks.error("repeat 10(nop;);", 2, 7);
        Checks.error("repeat 100(nop;);", 1, 7);
        Checks.error("repeat (nop;);", 1, 7);
        Checks.error("repeat 2 nop;", 1, 9);
        Checks.error("repeat 2(nop;)", 1, 14);
        Checks.error("repeat 2(nop;", 1, 13);
        Checks.error("repeat 2(nop);", 1, 12);
        Checks.error("repeat 2(nop;));", 1, 14);
        Checks.error("repeat 2(2", 1, 9);
        Checks.error("repeat 1(repeat 1(repeat 0", 4, 18);
        Checks.error("repeat 1(repeat 1(lanes", 1, 18);
    }

    private static void targets() {
        FusionFront front = Checks.made("repeat 2(nop;jump back 1;jump ahead 0;branch ahead 9 times 99;);long jump back 8;");
        int[] to = {-1, 0, 3, 9, -1, 4, 7, 9, 0};
        for (int number = 0; number < to.length; number++) {
            Checks.same("target " + number, front.instruction(number, 4), to[number]);
        }
        Checks.error("jump back 1;", 2, 10);
        Checks.error("nop;jump back 0;", 2, 14);
        Checks.error("nop;jump back 2;", 2, 14);
        Checks.error("nop;jump back 001;", 1, 14);
        Checks.error("nop;repeat 2(jump back 2;);", 2, 23);
        Checks.fine("repeat 2(nop;);jump back 2;", 3);
        Checks.error("repeat 2(nop;);jump back 3;", 2, 25);
        Checks.fine("jump ahead 0;", 1);
        Checks.error("jump ahead 10;", 2, 11);
        Checks.error("jump;", 1, 4);
        Checks.error("jump nop;", 1, 5);
        Checks.error("jump ahead 0 times 3;", 1, 13);
        Checks.error("branch ahead 0;", 1, 14);
        Checks.error("branch ahead 0 back", 1, 15);
        Checks.error("branch ahead 0 times 0;", 2, 21);
        Checks.fine("branch ahead 0 times 1;branch ahead 9 times 99;", 2);
        Checks.error("branch ahead 0 times 100;", 1, 21);
        Checks.error("branch ahead 0 times x;", 1, 21);
    }

    private static void tooMany() {
        Checks.fine(REPEAT_60, 60);
        Checks.error(REPEAT_60 + "nop;", 4, REPEAT_60.length());
        Checks.error(REPEAT_60 + "long x", 4, REPEAT_60.length());
        Checks.error(REPEAT_60 + "branch x", 4, REPEAT_60.length());
        Checks.error(REPEAT_60 + "repeat 1(nop;);", 4, REPEAT_60.length() + 9);
        Checks.error(REPEAT_60 + "x", 1, REPEAT_60.length());
        Checks.fine(REPEAT_60 + "repeat 9();", 60);
        Checks.error("nop;" + REPEAT_60, 4, 4 + REPEAT_60.length() - 2);
        Checks.error("repeat 7(repeat 9(nop;););", 4, 24);
        Checks.error("repeat 1(repeat 9(nop;add;nop;add;nop;add;nop;);", 4, 46);
        // The copies that are still to come do not count: the 60th instruction may stand in the brackets.
        String most = "repeat 6(repeat 9(nop;););repeat 2(nop;nop;nop;nop;nop;nop;";
        Checks.error(most, 1, most.length());
        Checks.error(most + ");", 4, most.length());
        Checks.error(most + "add", 4, most.length());
        Checks.fine("repeat 6(repeat 9(nop;););repeat 2(nop;nop;nop;);", 60);
    }
}
