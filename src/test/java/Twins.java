/** Compares two front ends by all that can be asked of them. */
final class Twins {
    private Twins() {
    }

    /** All but the changes that can be undone, the error and the output. */
    static void same(String what, FusionFront got, FusionFront want) {
        for (int index = 0; index < 24; index++) {
            Checks.same(what + " count " + index, got.count(index), want.count(index));
        }
        for (int number = 0; number < Math.min(got.count(0), want.count(0)); number++) {
            for (int index = 0; index < 8; index++) {
                Checks.same(what + " instruction " + number, got.instruction(number, index), want.instruction(number, index));
            }
            Checks.same(what + " times " + number, got.times(number), want.times(number));
            Checks.holds(what + " fuses " + number, got.fuses(number) == want.fuses(number));
            Checks.holds(what + " loopable " + number, got.isLoopable(number) == want.isLoopable(number));
        }
        for (int rule = 0; rule < Math.min(got.count(8), want.count(8)); rule++) {
            Checks.same(what + " first of rule " + rule, got.rule(rule, false), want.rule(rule, false));
            Checks.same(what + " second of rule " + rule, got.rule(rule, true), want.rule(rule, true));
        }
        for (int index = 0; index < Math.min(got.count(19), want.count(19)); index++) {
            Checks.same(what + " queue " + index, got.queueAt(index), want.queueAt(index));
        }
        for (int index = 0; index < 4; index++) {
            Checks.same(what + " loop " + index, got.loop(index), want.loop(index));
        }
        for (int cause = 1; cause <= 8; cause++) {
            Checks.same(what + " cause " + cause, got.bubbles(cause), want.bubbles(cause));
        }
        for (int back = 0; back < Math.min(100, Math.min(got.count(10), want.count(10))); back++) {
            Checks.same(what + " decoded " + back, got.decoded(back), want.decoded(back));
        }
        Checks.holds(what + " cut", got.isCut() == want.isCut());
        Checks.holds(what + " agrees", got.agrees() == want.agrees());
    }

    /** All but the error and the output. */
    static void whole(String what, FusionFront got, FusionFront want) {
        same(what, got, want);
        Checks.same(what + " changes", got.count(24), want.count(24));
    }

    static void sameCycles(String what, FusionFront got, FusionFront want) {
        same(what, got, want);
        for (int cycle = 1; cycle <= 12; cycle++) {
            got.run(1);
            want.run(1);
            same(what + " then " + cycle, got, want);
        }
    }
}
