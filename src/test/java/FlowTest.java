/** The KINDS 20 to 28: FAILURES caught and passed on, choices, loops, FRAMES, what is told, LATERS. */
public final class FlowTest {
    private static final Checks CHECKS = new Checks("FlowTest");
    private static final int MIN = Integer.MIN_VALUE, MAX = Integer.MAX_VALUE;

    public static void main(String[] args) {
        failing();
        catchingOneKind();
        catchingAny();
        codeInSlot7();
        zIsDone();
        nothingToCatch();
        alwaysDone();
        failureGoesOn();
        laterFailureInstead();
        choices();
        loops();
        loopsWithoutRounds();
        frames();
        actsThereAreWhenItRuns();
        telling();
        fortyAtMost();
        putOff();
        once();
        inItsFrame();
        failsEachTime();
        CHECKS.finish();
    }

    private static void failing() {
        CHECKS.sentence("20 FAILS by OWN, with the WHOLE x.");
        Builder b = new Builder();
        int fail = b.fail(b.whole(-3));
        CHECKS.due("run", b.work.run(b.then(fail, b.tell(b.whole(1))), 9), -17);
        CHECKS.dueEnd("20", b.work, Builder.OWN, -3, fail, 3, 1);
        CHECKS.due("gave", b.work.gave(), 0);
        CHECKS.due("nothing behind it is done", b.work.count(1), 0);
    }

    private static void catchingOneKind() {
        CHECKS.sentence("21 x is done; if it FAILS by the kind b");
        for (int wanted = 1; wanted <= 8; wanted++) {
            Builder b = new Builder();
            int[] failing = b.oneOfEachFailure(99);
            int z = b.whole(55);
            for (int kind = 1; kind <= 8; kind++) {
                int act = b.caught(failing[kind], wanted, z);
                CHECKS.due("kind " + kind + " by " + wanted, b.failureOf(act), kind == wanted ? 0 : kind);
                CHECKS.due("its VALUE", b.work.gave(), kind == wanted ? 55 : 0);
                CHECKS.due("ended(0)", b.work.ended(0), kind == wanted ? 0 : kind);
                CHECKS.due("FAILURES", b.work.ended(4), 1);
            }
        }
        Builder b = new Builder();
        int five = b.whole(5);
        int own = b.fail(five);
        int inner = b.caught(own, Builder.STORE, b.tell(five));
        CHECKS.due("an outer one catches it", b.wholeOf(b.caught(inner, Builder.OWN, b.whole(6))), 6);
        CHECKS.due("z of the inner one is not done", b.work.count(1), 0);
    }

    private static void catchingAny() {
        CHECKS.sentence("(0: by any)");
        Builder b = new Builder();
        int[] failing = b.oneOfEachFailure(99);
        int code = b.slot(7);
        for (int kind = 1; kind <= 8; kind++) {
            CHECKS.due("kind " + kind, b.wholeOf(b.caught(failing[kind], 0, code)), kind == Builder.OWN ? 99 : kind);
            CHECKS.dueEnd("kind " + kind, b.work, 0, 0, -1, b.work.ended(3), 1);
        }
    }

    private static void codeInSlot7() {
        CHECKS.sentence("SLOT 7 gets the code of that");
        Builder b = new Builder();
        int code = b.slot(7);
        int fail = b.fail(b.whole(4));
        int kept = b.keep(b.whole(8), 7, b.caught(fail, 0, code));
        CHECKS.due("what it held is gone", b.wholeOf(kept), 4);
        CHECKS.due("it stays there", b.wholeOf(b.then(b.caught(fail, 0, b.nothing()), code)), 4);
        CHECKS.due("SLOT 6 is left", b.work.run(b.caught(fail, 0, b.slot(6)), 9), Builder.NOTHING);
        int other = b.caught(fail, Builder.RING, code);
        CHECKS.due("not where it is not caught", b.wholeOf(b.keep(b.whole(8), 7, b.caught(other, 0, code))), 4);
        int inCall = b.caught(b.call(fail, code), 0, code);
        CHECKS.due("of the FRAME of 21", b.wholeOf(inCall), 4);
        int inner = b.call(b.caught(fail, 0, code), code);
        CHECKS.due("of no other FRAME", b.work.run(b.then(inner, code), 20), Builder.NOTHING);
    }

    private static void zIsDone() {
        CHECKS.sentence("and z is done: its VALUE (x is a, z is c)");
        Builder b = new Builder();
        int fail = b.fail(b.whole(4));
        int tell = b.tell(b.whole(9));
        CHECKS.due("its VALUE", b.wholeOf(b.caught(fail, 0, tell)), 9);
        CHECKS.due("it is done once", b.work.count(1), 1);
        int other = b.divided(b.whole(1), b.whole(0));
        int inZ = b.caught(fail, 0, other);
        CHECKS.due("z FAILS", b.failureOf(inZ), Builder.ARITHMETIC);
        CHECKS.dueEnd("z FAILS", b.work, Builder.ARITHMETIC, Builder.ARITHMETIC, other, 6, 2);
        CHECKS.due("it is caught outside", b.wholeOf(b.caught(inZ, Builder.ARITHMETIC, b.slot(7))), 6);
        CHECKS.due("its own 21 does not catch it", b.failureOf(b.caught(fail, Builder.OWN, fail)), Builder.OWN);
        CHECKS.due("FAILURES", b.work.ended(4), 2);
    }

    private static void nothingToCatch() {
        CHECKS.sentence("21 x is done (and does not FAIL)");
        Builder b = new Builder();
        int z = b.tell(b.whole(9));
        CHECKS.due("the VALUE of x", b.wholeOf(b.caught(b.whole(5), 0, z)), 5);
        CHECKS.due("z is not done", b.work.count(1), 0);
        CHECKS.due("x gives NOTHING", b.work.run(b.caught(b.nothing(), 0, z), 9), Builder.NOTHING);
        CHECKS.due("SLOT 7 is left", b.work.run(b.then(b.caught(b.whole(5), 0, z), b.slot(7)), 9), Builder.NOTHING);
    }

    private static void alwaysDone() {
        CHECKS.sentence("22 x is done, then y, however x ended: the VALUE of x");
        Builder b = new Builder();
        int tell = b.tell(b.whole(2));
        CHECKS.due("the VALUE of x", b.wholeOf(b.always(b.whole(1), tell)), 1);
        CHECKS.due("y is done", b.work.out(0), 2);
        CHECKS.due("x gives NOTHING", b.work.run(b.always(b.nothing(), tell), 9), Builder.NOTHING);
        CHECKS.due("x FAILS", b.failureOf(b.always(b.fail(b.whole(7)), tell)), Builder.OWN);
        CHECKS.due("y is done all the same", b.work.out(0), 2);
        CHECKS.due("once", b.work.count(1), 1);
        int first = b.tell(b.whole(1));
        CHECKS.due("the VALUE of x, behind a RUN that FAILED there", b.wholeOf(b.always(first, tell)), 1);
        CHECKS.due("x first", b.work.out(0), 1);
        CHECKS.due("then y", b.work.out(1), 2);
        int failed = b.caught(b.always(b.fail(first), tell), 0, first);
        CHECKS.due("the VALUE of x, behind another 22 that FAILED",
                b.wholeOf(b.then(failed, b.caught(b.always(first, tell), 0, tell))), 1);
    }

    private static void failureGoesOn() {
        CHECKS.sentence("or x's FAILURE goes on");
        Builder b = new Builder();
        int fail = b.fail(b.whole(7));
        int tell = b.tell(b.whole(2));
        CHECKS.due("run", b.work.run(b.always(fail, tell), 50), -17);
        CHECKS.dueEnd("it is no new FAILURE", b.work, Builder.OWN, 7, fail, 5, 1);
        int nested = b.always(b.always(fail, tell), tell);
        CHECKS.due("through two", b.failureOf(nested), Builder.OWN);
        CHECKS.due("both are done", b.work.count(1), 2);
        CHECKS.due("it is caught behind them", b.wholeOf(b.caught(nested, Builder.OWN, b.slot(7))), 7);
        int quiet = b.caught(b.divided(b.whole(1), b.whole(0)), 0, b.slot(7));
        CHECKS.due("y catches one of its own", b.failureOf(b.always(fail, quiet)), Builder.OWN);
        CHECKS.dueEnd("x's goes on", b.work, Builder.OWN, 7, fail, 8, 2);
    }

    private static void laterFailureInstead() {
        CHECKS.sentence("if y FAILS, that goes on instead");
        Builder b = new Builder();
        int one = b.whole(1);
        int fail = b.fail(one);
        int other = b.divided(one, b.whole(0));
        CHECKS.due("both FAIL", b.failureOf(b.always(fail, other)), Builder.ARITHMETIC);
        CHECKS.dueEnd("both FAIL", b.work, Builder.ARITHMETIC, Builder.ARITHMETIC, other, 6, 2);
        CHECKS.due("y alone FAILS", b.failureOf(b.always(one, fail)), Builder.OWN);
        CHECKS.dueEnd("y alone FAILS", b.work, Builder.OWN, 1, fail, 4, 1);
        int only = b.caught(b.always(fail, other), Builder.OWN, one);
        CHECKS.due("x's is gone", b.failureOf(only), Builder.ARITHMETIC);
    }

    private static void choices() {
        CHECKS.sentence("23 y if x is not 0, else z.");
        Builder b = new Builder();
        int yes = b.tell(b.whole(1));
        int no = b.tell(b.whole(2));
        for (int x : new int[] {MIN, -1, 0, 1, 2, MAX}) {
            CHECKS.due("23 of " + x, b.wholeOf(b.choose(b.whole(x), yes, no)), x != 0 ? 1 : 2);
            CHECKS.due("only one is done", b.work.count(1), 1);
            CHECKS.due("STEPS", b.work.ended(3), 4);
        }
    }

    /** Counts SLOT 0 toward 0, and tells each. */
    private static void loops() {
        CHECKS.sentence("24 as long as x is not 0, y is done; NOTHING.");
        for (int n : new int[] {1, 3, -2}) {
            Builder b = new Builder();
            int count = b.slot(0);
            int step = b.whole(n < 0 ? 1 : -1);
            int loop = b.loop(count, b.keep(b.plus(b.tell(count), step), 0, b.whole(8)));
            CHECKS.due("loop", b.work.run(b.keep(b.whole(n), 0, loop), 200), Builder.NOTHING);
            CHECKS.due("rounds", b.work.count(1), Math.abs(n));
            for (int i = 0; i < Math.abs(n); i++) {
                CHECKS.due("out(" + i + ")", b.work.out(i), n < 0 ? n + i : n - i);
            }
            CHECKS.due("behind it", b.wholeOf(b.keep(b.whole(n), 0, b.then(loop, count))), 0);
        }
        Builder b = new Builder();
        int fail = b.fail(b.whole(5));
        CHECKS.due("a FAILURE leaves it", b.wholeOf(b.caught(b.loop(b.whole(1), fail), 0, b.slot(7))), 5);
        CHECKS.due("a FAILURE of x, too", b.wholeOf(b.caught(b.loop(fail, fail), 0, b.slot(7))), 5);
        int kept = b.slot(0);
        int once = b.keep(b.whole(1), 0, b.loop(kept, b.keep(b.nothing(), 0, kept)));
        CHECKS.due("x is NOTHING when it is asked again", b.failureOf(once), Builder.NULL);
    }

    private static void loopsWithoutRounds() {
        CHECKS.sentence("24 as long as x is not 0 (here never)");
        Builder b = new Builder();
        CHECKS.due("loop", b.work.run(b.loop(b.tell(b.whole(0)), b.tell(b.whole(1))), 200), Builder.NOTHING);
        CHECKS.due("x is asked once, y is not done", b.work.count(1), 1);
        CHECKS.due("STEPS", b.work.ended(3), 3);
    }

    private static void frames() {
        CHECKS.sentence("25 the ACT with the number a is done in a new FRAME whose SLOT 0 has x (b); its VALUE.");
        Builder b = new Builder();
        int nine = b.whole(9);
        int slot = b.slot(0);
        CHECKS.due("SLOT 0 has x", b.wholeOf(b.call(slot, nine)), 9);
        CHECKS.due("SLOT 1 has NOTHING", b.work.run(b.keep(nine, 1, b.call(b.slot(1), nine)), 9), Builder.NOTHING);
        int change = b.keep(b.whole(4), 0, slot);
        CHECKS.due("its VALUE", b.wholeOf(b.call(change, nine)), 4);
        CHECKS.due("its own FRAME", b.wholeOf(b.keep(nine, 0, b.then(b.call(change, nine), slot))), 9);
        CHECKS.due("x in the old FRAME", b.wholeOf(b.keep(nine, 0, b.call(slot, b.plus(slot, slot)))), 18);
        CHECKS.due("a FAILURE passes", b.failureOf(b.call(b.fail(slot), nine)), Builder.OWN);
        CHECKS.due("with its code", b.work.ended(1), 9);
        CHECKS.due("number 0", b.wholeOf(b.call(0, slot)), 9);

        Builder f = new Builder();
        int n = f.slot(0);
        int product = f.times(n, f.call(6, f.plus(n, f.whole(-1))));
        int factorial = f.choose(n, product, f.whole(1));
        CHECKS.due("the number foreseen", factorial, 6);
        CHECKS.due("an ACT that does itself", f.wholeOf(f.call(factorial, f.whole(6))), 720);
    }

    private static void actsThereAreWhenItRuns() {
        CHECKS.sentence("(any that there is when it runs; else NOTHING)");
        Builder b = new Builder();
        int nine = b.whole(9);
        int last = b.call(59, b.tell(nine));
        CHECKS.due("59", b.work.run(last, 9), Builder.NOTHING);
        CHECKS.due("x is done", b.work.out(0), 9);
        CHECKS.due("STEPS", b.work.ended(3), 3);
        CHECKS.due("no FAILURE", b.work.ended(4), 0);
        CHECKS.due("behind it", b.wholeOf(b.then(last, nine)), 9);
        int next = b.call(b.work.count(0) + 1, nine);
        CHECKS.due("the next one, not yet", b.work.run(next, 9), Builder.NOTHING);
        b.slot(0);
        CHECKS.due("the next one", b.wholeOf(next), 9);
        while (b.work.count(0) < 59) {
            b.nothing();
        }
        CHECKS.due("59, not yet", b.work.run(last, 9), Builder.NOTHING);
        b.whole(77);
        CHECKS.due("59", b.wholeOf(last), 77);
    }

    private static void telling() {
        CHECKS.sentence("26 x, a WHOLE, is told: it comes behind OUT; x.");
        Builder b = new Builder();
        for (int n : new int[] {MIN, -1, 0, 1, MAX}) {
            CHECKS.due("it gives x", b.wholeOf(b.tell(b.whole(n))), n);
            CHECKS.due("it is told", b.work.out(0), n);
        }
        int both = b.then(b.tell(b.whole(3)), b.tell(b.whole(4)));
        b.work.run(both, 9);
        CHECKS.due("first", b.work.out(0), 3);
        CHECKS.due("behind it", b.work.out(1), 4);
    }

    private static void fortyAtMost() {
        CHECKS.sentence("(40 at most, more are left)");
        Builder b = new Builder();
        int five = b.tell(b.whole(5));
        int eight = b.all(five, five, five, five, five, five, five, five);
        int thirtyTwo = b.all(eight, eight, eight, eight);
        int seven = b.tell(b.whole(7));
        int many = b.all(thirtyTwo, seven, seven, seven, seven, seven, seven, seven);
        b.work.run(many, 200);
        CHECKS.due("39", b.work.count(1), 39);
        b.work.run(b.then(many, b.tell(b.whole(8))), 200);
        CHECKS.due("40", b.work.count(1), 40);
        CHECKS.due("the 40th", b.work.out(39), 8);
        int more = b.all(many, b.tell(b.whole(8)), b.tell(b.whole(9)));
        CHECKS.due("a 41st gives x", b.wholeOf(more), 9);
        CHECKS.due("it is left", b.work.count(1), 40);
        CHECKS.due("the first", b.work.out(0), 5);
        CHECKS.due("the 40th is as it was", b.work.out(39), 8);
        CHECKS.due("no 41st", b.work.out(40), SideWork.OUTSIDE);
        CHECKS.due("nothing FAILS", b.work.ended(4), 0);
    }

    private static void putOff() {
        CHECKS.sentence("27 a LATER of x, with this FRAME.");
        Builder b = new Builder();
        int later = b.later(b.tell(b.whole(3)));
        CHECKS.due("27", b.work.run(later, 1), Builder.LATER);
        CHECKS.due("x is not done", b.work.count(1), 0);
        CHECKS.due("STEPS", b.work.ended(3), 1);
        CHECKS.due("even if it would FAIL", b.work.run(b.later(b.fail(b.whole(1))), 9), Builder.LATER);
        CHECKS.due("each is a new one", b.wholeOf(b.alike(later, later)), 0);
    }

    private static void once() {
        CHECKS.sentence("28 the LATER x is worked: once: its VALUE");
        Builder b = new Builder();
        int tell = b.tell(b.whole(3));
        int later = b.later(tell);
        int force = b.force(b.slot(0));
        CHECKS.due("its VALUE", b.wholeOf(b.keep(later, 0, force)), 3);
        CHECKS.due("twice", b.wholeOf(b.keep(later, 0, b.plus(force, force))), 6);
        CHECKS.due("done once", b.work.count(1), 1);
        CHECKS.due("two LATERS", b.wholeOf(b.plus(b.force(later), b.force(later))), 6);
        CHECKS.due("each once", b.work.count(1), 2);
        int row = b.keep(b.later(b.row(b.whole(1))), 0, b.alike(force, force));
        CHECKS.due("one and the same ROW", b.wholeOf(row), 1);
        CHECKS.due("NOTHING, twice", b.work.run(b.keep(b.later(b.nothing()), 0, b.then(force, force)), 20), Builder.NOTHING);
    }

    private static void inItsFrame() {
        CHECKS.sentence("x's ACT is done in its FRAME");
        Builder b = new Builder();
        int kept = b.slot(0);
        int ofSlot = b.later(b.slot(1));
        int force = b.force(kept);
        CHECKS.due("as the FRAME is then", b.wholeOf(b.keep(ofSlot, 0, b.keep(b.whole(8), 1, force))), 8);
        int maker = b.keep(b.whole(5), 1, ofSlot);
        CHECKS.due("a FRAME that ended", b.wholeOf(b.keep(b.whole(6), 1, b.force(b.call(maker, kept)))), 5);
        int writer = b.later(b.keep(b.whole(4), 2, kept));
        CHECKS.due("its SLOTS are the FRAME's", b.wholeOf(b.keep(writer, 0, b.then(force, b.slot(2)))), 4);
        int forced = b.keep(b.whole(7), 1, force);
        CHECKS.due("from another FRAME", b.wholeOf(b.keep(b.whole(6), 1, b.call(forced, ofSlot))), 6);
    }

    private static void failsEachTime() {
        CHECKS.sentence("or it FAILS so each time");
        Builder b = new Builder();
        int kept = b.slot(0);
        int force = b.force(kept);
        int again = b.force(kept);
        int fail = b.fail(b.tell(b.whole(-5)));
        CHECKS.due("first", b.failureOf(b.keep(b.later(fail), 0, force)), Builder.OWN);
        CHECKS.dueEnd("first, where it arose", b.work, Builder.OWN, -5, fail, 7, 1);
        CHECKS.due("again", b.failureOf(b.keep(b.later(fail), 0, b.caught(force, Builder.OWN, again))), Builder.OWN);
        CHECKS.dueEnd("again, where it is worked", b.work, Builder.OWN, -5, again, 10, 2);
        CHECKS.due("done once", b.work.count(1), 1);
        int ring = b.keep(b.later(again), 0, b.caught(force, Builder.RING, force));
        CHECKS.due("RING each time", b.failureOf(ring), Builder.RING);
        CHECKS.due("not at the inner one", b.work.ended(2), force);
        int noWork = b.then(b.caught(b.force(b.then(kept, fail)), 0, kept), force);
        CHECKS.due("a FAILURE of 28's part is not the LATER's", b.wholeOf(b.keep(b.later(b.whole(2)), 0, noWork)), 2);
        int noLater = b.then(b.caught(b.force(b.whole(0)), Builder.CAST, kept), force);
        CHECKS.due("nor is a CAST of 28 itself", b.wholeOf(b.keep(b.later(b.whole(3)), 0, noLater)), 3);
    }
}
