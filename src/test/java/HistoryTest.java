import java.util.NoSuchElementException;

/** Promises 20 to 27: what happened. */
public final class HistoryTest {
    private static final Class<IndexOutOfBoundsException> NO_INDEX = IndexOutOfBoundsException.class;
    private static final Class<IllegalArgumentException> NO_ARGUMENT = IllegalArgumentException.class;

    private HistoryTest() {
    }

    public static void main(String[] args) {
        causes();
        latest();
        latestHundred();
        plainDecoder();
        agreement();
        timesOfEach();
        shares();
        Checks.end();
    }

    private static void causes() {
        FusionFront front = Checks.made("lanes 3;nop;");
        Checks.same("none", front.mainCause(), FusionFront.NONE);
        front.run(1);
        Checks.same("1", front.mainCause(), 1);
        Checks.same("3 for 1", front.bubbles(1), 3);
        front.run(1);
        Checks.same("2 for 8", front.bubbles(8), 2);
        Checks.same("still 1", front.mainCause(), 1);
        front.set(2, 1);
        front.run(1);
        Checks.same("3 for 8", front.bubbles(8), 3);
        Checks.same("the smallest on a tie", front.mainCause(), 1);
        front.run(1);
        Checks.same("8", front.mainCause(), 8);
        Checks.throwsOne("0", NO_ARGUMENT, () -> front.bubbles(0));
        Checks.throwsOne("9", NO_ARGUMENT, () -> front.bubbles(9));
        Checks.throwsOne("-1", NO_ARGUMENT, () -> front.bubbles(-1));
    }

    private static void latest() {
        FusionFront front = Checks.made("lanes 2;nop;add;mov;");
        Checks.throwsOne("nothing yet", NoSuchElementException.class, () -> front.decoded(0));
        front.run(3);
        Checks.same("latest", front.decoded(0), 2);
        Checks.same("before it", front.decoded(1), 1);
        Checks.same("first", front.decoded(2), 0);
        Checks.throwsOne("3", NoSuchElementException.class, () -> front.decoded(3));
        Checks.throwsOne("-1", NoSuchElementException.class, () -> front.decoded(-1));
    }

    private static void latestHundred() {
        FusionFront front = Checks.made("lanes 1;loop 30;nop;add;mov;jump back 2;");
        front.runTo(100);
        Checks.same("100 are decoded", front.count(10), 100);
        Checks.same("the first one is there", front.decoded(99), 0);
        Checks.throwsOne("100 of 100", NoSuchElementException.class, () -> front.decoded(100));
        front.runTo(101);
        Checks.same("the first one is gone", front.decoded(99), 1);
        Checks.throwsOne("100 of 101", NoSuchElementException.class, () -> front.decoded(100));
        front.runTo(250);
        for (int back = 0; back < 100; back++) {
            Checks.same("back " + back, front.decoded(back), front.plain(249 - back));
        }
        Checks.throwsOne("greatest", NoSuchElementException.class, () -> front.decoded(Integer.MAX_VALUE));
    }

    private static void plainDecoder() {
        FusionFront front = Checks.made("nop;branch back 1 times 2;jump ahead 1;add;branch back 4 times 1;mov;");
        int[] due = {0, 1, 0, 1, 0, 1, 2, 4, 0, 1, 0, 1, 0, 1, 2, 4, 5, FusionFront.NONE, FusionFront.NONE};
        for (int index = 0; index < due.length; index++) {
            Checks.same("plain " + index, front.plain(index), due[index]);
        }
        Checks.same("far beyond", front.plain(9999), FusionFront.NONE);
        front.run(30);
        Checks.same("cycles are nothing to it", front.plain(4), 0);
        Checks.throwsOne("-1", NO_ARGUMENT, () -> front.plain(-1));
        Checks.throwsOne("10000", NO_ARGUMENT, () -> front.plain(10000));
        FusionFront endless = Checks.made("nop;add;mov;jump back 3;");
        Checks.same("9999", endless.plain(9999), 3);
        Checks.same("empty", new FusionFront().plain(0), FusionFront.NONE);
        FusionFront out = Checks.made("branch ahead 5 times 1;nop;");
        Checks.same("one", out.plain(0), 0);
        Checks.same("then the end", out.plain(1), FusionFront.NONE);
    }

    private static void agreement() {
        FusionFront front = Checks.made("lanes 1;nop;add;mov;");
        Checks.holds("nothing", front.agrees());
        front.run(10);
        Checks.holds("all", front.agrees());
        front.redirect(2);
        Checks.holds("redirect alone", front.agrees());
        front.run(9);
        Checks.fails("more than a plain decoder decodes", front.agrees());
        // The redirect goes where the plain decoder goes, too.
        FusionFront same = Checks.made("lanes 1;nop;add;mov;");
        same.run(2);
        same.redirect(1);
        same.run(20);
        Checks.same("three", same.count(10), 3);
        Checks.holds("the same ones", same.agrees());
        // Behind 100 more instructions, those that differ are forgotten.
        FusionFront far = Checks.made("lanes 1;loop 9;nop;jump back 1;add;");
        far.redirect(2);
        far.run(20);
        Checks.same("only the last one", far.decoded(0), 2);
        Checks.fails("differs", far.agrees());
        far.redirect(1);
        far.runTo(100);
        Checks.fails("one of 100 differs", far.agrees());
        far.runTo(101);
        Checks.holds("the latest 100 are the same", far.agrees());
    }

    private static void timesOfEach() {
        FusionFront front = Checks.made("nop;add;branch back 1 times 6;mov;");
        Checks.same("not yet", front.times(1), 0);
        front.run(99);
        int[] due = {1, 7, 7, 1};
        for (int number = 0; number < due.length; number++) {
            Checks.same("times " + number, front.times(number), due[number]);
        }
        Checks.throwsOne("-1", NO_INDEX, () -> front.times(-1));
        Checks.throwsOne("4", NO_INDEX, () -> front.times(4));
        FusionFront looped = Checks.made("loop 30;nop;add;branch back 1 times 6;mov;");
        looped.run(99);
        Checks.same("from the loop, too", looped.times(2), 7);
        Checks.holds("a loop", looped.count(17) > 0);
    }

    private static void shares() {
        FusionFront front = Checks.made("lanes 4;fuse add mov;add;mov;nop;");
        Checks.same("no cycle", front.perCycle(), 0);
        Checks.same("nothing decoded", front.fusedShare(), 0);
        front.run(1);
        Checks.same("0 of 1", front.perCycle(), 0);
        Checks.same("still nothing", front.fusedShare(), 0);
        front.run(1);
        Checks.same("3 in 2", front.perCycle(), 1.5);
        Checks.same("2 of 3", front.fusedShare(), 2.0f / 3.0f);
        front.run(5);
        Checks.same("3 in 7", front.perCycle(), 3.0 / 7.0);
    }
}
