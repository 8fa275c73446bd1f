/** KINDS 23 to 28: choices, loops, FRAMES, what is told, and LATERS; promise 11. */
public final class FlowTest {
    private static final Checks CHECKS = new Checks("FlowTest");

    public static void main(String[] args) {
        choices();
        loops();
        frames();
        telling();
        laters();
        latersThatFail();
        CHECKS.finish();
    }

    private static void choices() {
        Builder b = new Builder();
        int yes = b.tell(b.whole(1));
        int no = b.tell(b.whole(2));
        for (int x : new int[] {1, -1, Integer.MIN_VALUE}) {
            CHECKS.due("not 0", b.wholeOf(b.choose(b.whole(x), yes, no)), 1);
            CHECKS.due("only y is done", b.work.count(1), 1);
        }
        CHECKS.due("0", b.wholeOf(b.choose(b.whole(0), yes, no)), 2);
        CHECKS.due("only z is done", b.work.count(1), 1);
        CHECKS.due("STEPS", b.work.ended(3), 4);
    }

    /** Counts SLOT 0 down from n, and tells each: a loop with 6 STEPS and an asking for each round. */
    private static void loops() {
        for (int n : new int[] {0, 1, 3}) {
            Builder b = new Builder();
            int count = b.slot(0);
            int body = b.keep(b.plus(b.tell(count), b.whole(-1)), 0, b.nothing());
            int loop = b.loop(count, body);
            CHECKS.due("loop", b.work.run(b.keep(b.whole(n), 0, loop), 200), Builder.NOTHING);
            CHECKS.due("told", b.work.count(1), n);
            for (int i = 0; i < n; i++) {
                CHECKS.due("out(" + i + ")", b.work.out(i), n - i);
            }
            // keep, WHOLE, loop, x; for each round keep, plus, tell, SLOT, WHOLE, NOTHING, the asking, x
            CHECKS.due("STEPS of " + n + " rounds", b.work.ended(3), 4 + 8 * n);
            CHECKS.due("behind it", b.wholeOf(b.keep(b.whole(n), 0, b.then(loop, b.whole(6)))), 6);
        }
    }

    private static void frames() {
        Builder b = new Builder();
        int nine = b.whole(9);
        int slot = b.slot(0);
        int other = b.slot(1);
        CHECKS.due("SLOT 0 has x", b.wholeOf(b.call(slot, nine)), 9);
        CHECKS.due("other SLOTS have NOTHING", b.work.run(b.keep(nine, 1, b.call(other, nine)), 9), Builder.NOTHING);
        int change = b.keep(b.whole(4), 0, slot);
        CHECKS.due("its own FRAME", b.wholeOf(b.keep(nine, 0, b.then(b.call(change, nine), slot))), 9);
        CHECKS.due("an ACT that there is not", b.work.run(b.call(59, b.tell(nine)), 9), Builder.NOTHING);
        CHECKS.due("x is done", b.work.out(0), 9);
        CHECKS.due("STEPS", b.work.ended(3), 3);
        CHECKS.due("behind it", b.wholeOf(b.then(b.call(59, nine), nine)), 9);
        int last = b.work.count(0);
        int ahead = b.call(last + 1, nine);
        CHECKS.due("not yet", b.work.run(ahead, 9), Builder.NOTHING);
        b.tell(slot);
        CHECKS.due("then it is there", b.wholeOf(ahead), 9);
        CHECKS.due("a FAILURE passes", b.failureOf(b.call(b.fail(slot), nine)), Builder.OWN);
        CHECKS.due("with its code", b.work.ended(1), 9);

        Builder f = new Builder();
        int n = f.slot(0);
        int one = f.whole(1);
        int less = f.plus(n, f.whole(-1));
        int product = f.times(n, f.call(6, less));
        int factorial = f.choose(n, product, one);
        CHECKS.due("the number foreseen", factorial, 6);
        CHECKS.due("an ACT that does itself", f.wholeOf(f.call(factorial, f.whole(6))), 720);
    }

    private static void telling() {
        Builder b = new Builder();
        int tell = b.tell(b.whole(SideWork.OUTSIDE));
        CHECKS.due("26 gives x", b.wholeOf(tell), SideWork.OUTSIDE);
        CHECKS.due("it may be told, too", b.work.out(0), SideWork.OUTSIDE);
        for (int wrong : new int[] {-1, 1, 40, Integer.MIN_VALUE, Integer.MAX_VALUE}) {
            CHECKS.due("out(" + wrong + ")", b.work.out(wrong), SideWork.OUTSIDE);
        }
        int many = b.tell(b.whole(5));
        for (int i = 0; i < 5; i++) {
            many = b.then(many, many);
        }
        CHECKS.due("32", b.wholeOf(many), 5);
        CHECKS.due("count(1)", b.work.count(1), 32);
        CHECKS.due("the RUN before is gone", b.work.out(0), 5);
        int seven = b.tell(b.whole(7));
        int more = b.all(many, seven, seven, seven, seven, seven, seven, seven, b.tell(b.whole(8)), b.tell(b.whole(9)));
        CHECKS.due("41 are done", b.wholeOf(more), 9);
        CHECKS.due("40 at most", b.work.count(1), 40);
        CHECKS.due("the 40th", b.work.out(39), 8);
        CHECKS.due("no 41st", b.work.out(40), SideWork.OUTSIDE);
        b.work.run(b.nothing(), 1);
        CHECKS.due("OUT is empty", b.work.count(1), 0);
    }

    private static void laters() {
        Builder b = new Builder();
        int kept = b.slot(0);
        int tell = b.tell(b.whole(3));
        int later = b.later(tell);
        int force = b.force(kept);
        CHECKS.due("27", b.work.run(later, 1), Builder.LATER);
        CHECKS.due("nothing is done", b.work.count(1), 0);
        CHECKS.due("28", b.wholeOf(b.keep(later, 0, b.plus(force, force))), 6);
        CHECKS.due("once", b.work.count(1), 1);
        CHECKS.due("two LATERS", b.wholeOf(b.plus(b.force(later), b.force(later))), 6);
        CHECKS.due("each once", b.work.count(1), 2);
        int ofSlot = b.later(b.slot(1));
        CHECKS.due("with this FRAME, as it is then",
                b.wholeOf(b.keep(ofSlot, 0, b.keep(b.whole(8), 1, force))), 8);
        int maker = b.keep(b.whole(5), 1, ofSlot);
        CHECKS.due("a FRAME that ended", b.wholeOf(b.keep(b.whole(6), 1, b.force(b.call(maker, kept)))), 5);
        CHECKS.due("28 of NOTHING", b.failureOf(b.force(b.nothing())), Builder.NULL);
        CHECKS.due("28 of a WHOLE", b.failureOf(b.force(b.whole(0))), Builder.CAST);
        CHECKS.due("28 of a LINK", b.failureOf(b.force(b.link(later))), Builder.CAST);
    }

    private static void latersThatFail() {
        Builder b = new Builder();
        int kept = b.slot(0);
        int force = b.force(kept);
        int again = b.force(kept);
        int fail = b.fail(b.tell(b.whole(-5)));
        int twice = b.keep(b.later(fail), 0, b.caught(force, Builder.OWN, again));
        CHECKS.due("it FAILS so each time", b.failureOf(twice), Builder.OWN);
        CHECKS.due("the same code", b.work.ended(1), -5);
        CHECKS.due("where it is worked again", b.work.ended(2), again);
        CHECKS.due("two FAILURES", b.work.ended(4), 2);
        CHECKS.due("done once", b.work.count(1), 1);
        CHECKS.due("first, where it arose", b.failureOf(b.keep(b.later(fail), 0, force)), Builder.OWN);
        CHECKS.due("at 20", b.work.ended(2), fail);
        int ring = b.keep(b.later(again), 0, force);
        CHECKS.due("RING", b.failureOf(ring), Builder.RING);
        CHECKS.due("at the inner one", b.work.ended(2), again);
        int ringAgain = b.keep(b.later(again), 0, b.caught(force, 8, force));
        CHECKS.due("RING each time", b.failureOf(ringAgain), Builder.RING);
        CHECKS.due("not at the inner one", b.work.ended(2), force);
        int calm = b.caught(again, Builder.RING, b.whole(12));
        CHECKS.due("a RING that is caught inside", b.wholeOf(b.keep(b.later(calm), 0, b.plus(force, force))), 24);
        CHECKS.due("one FAILURE", b.work.ended(4), 1);
        int inX = b.keep(b.later(b.whole(2)), 0, b.then(b.caught(b.force(b.then(kept, fail)), 0, kept), force));
        CHECKS.due("a FAILURE of 28's part is not the LATER's", b.wholeOf(inX), 2);
        int noLater = b.keep(b.later(b.whole(3)), 0, b.then(b.caught(b.force(b.whole(0)), 4, kept), force));
        CHECKS.due("nor is a CAST of 28 itself", b.wholeOf(noLater), 3);
    }
}
