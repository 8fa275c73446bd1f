/** The KINDS 29 to 31: BOXES, and attempts that leave nothing when they FAIL. */
public final class AttemptTest {
    private static final Checks CHECKS = new Checks("AttemptTest");

    public static void main(String[] args) {
        attemptsThatGoThrough();
        places();
        links();
        boxes();
        copies();
        asTheyWereAhead();
        theRunEnds();
        slotsAreLeft();
        latersAreLeft();
        outIsLeft();
        caughtInside();
        nested();
        aheadOfWhatIsAlwaysDone();
        whatIsNew();
        fromBoxes();
        intoBoxes();
        CHECKS.finish();
    }

    private static void attemptsThatGoThrough() {
        CHECKS.sentence("29 x is done");
        Builder b = new Builder();
        CHECKS.due("the VALUE", b.wholeOf(b.attempt(b.toBox(2, b.whole(6)))), 6);
        CHECKS.due("the BOX", b.work.boxed(2), 6);
        CHECKS.due("NOTHING", b.work.run(b.attempt(b.nothing()), 2), Builder.NOTHING);
        CHECKS.due("STEPS", b.work.ended(3), 2);
    }

    /** The attempt of x and a FAILURE behind it, and what is done then. */
    private static int failedAttempt(Builder b, int x, int then) {
        return b.caught(b.attempt(b.then(x, b.fail(b.whole(1)))), Builder.OWN, then);
    }

    private static void places() {
        CHECKS.sentence("29 if it FAILS, all places are as they were ahead of it");
        Builder b = new Builder();
        int kept = b.slot(0);
        int first = b.whole(0);
        int last = b.whole(15);
        int ready = b.write(kept, last, b.whole(5));
        int change = b.all(b.write(kept, first, b.whole(6)), b.write(kept, last, b.whole(7)), b.write(kept, last, first));
        b.work.run(b.keep(b.row(b.whole(16)), 0, b.then(ready, failedAttempt(b, change, kept))), 100);
        CHECKS.duePlaces("a ROW", b.work, 0, 0, 0, 0, 0, 0, 0, 0, 0, 0, 0, 0, 0, 0, 0, 5);

        Builder l = new Builder();
        kept = l.slot(0);
        first = l.whole(0);
        int second = l.whole(1);
        ready = l.write(kept, first, l.link(first));
        change = l.all(l.write(kept, first, l.markedLink(first)), l.write(kept, second, l.link(first)));
        l.work.run(l.keep(l.links(l.whole(2)), 0, l.then(ready, failedAttempt(l, change, kept))), 100);
        CHECKS.duePlaces("LINKS", l.work, 1, 0);
        ready = l.write(kept, second, l.markedLink(first));
        change = l.all(l.write(kept, second, l.nothing()), l.write(kept, first, l.markedLink(first)));
        l.work.run(l.keep(l.markedRow(l.whole(2)), 0, l.then(ready, failedAttempt(l, change, kept))), 100);
        CHECKS.duePlaces("a MARKED ROW", l.work, 0, 2);
    }

    private static void links() {
        CHECKS.sentence("29 if it FAILS, all LINKS are as they were ahead of it");
        Builder b = new Builder();
        int kept = b.slot(0);
        int three = b.whole(3);
        int change = b.then(b.hold(kept, b.whole(4)), b.hold(kept, b.nothing()));
        int failed = failedAttempt(b, change, b.held(kept));
        CHECKS.due("a LINK", b.wholeOf(b.keep(b.link(three), 0, failed)), 3);
        CHECKS.due("a MARKED LINK", b.wholeOf(b.keep(b.markedLink(three), 0, failed)), 3);
        CHECKS.due("one with NOTHING", b.work.run(b.keep(b.link(b.nothing()), 0, failed), 50), Builder.NOTHING);
        int itself = b.keep(b.link(three), 0, failedAttempt(b, b.hold(kept, kept), b.held(kept)));
        CHECKS.due("one that held itself", b.wholeOf(itself), 3);
    }

    private static void boxes() {
        CHECKS.sentence("29 if it FAILS, all BOXES are as they were ahead of it");
        for (int box = 0; box < 8; box++) {
            Builder b = new Builder();
            int put = b.toBox(box, b.row(b.whole(2)));
            int change = b.then(b.toBox(box, b.whole(4)), b.toBox((box + 1) % 8, b.whole(5)));
            CHECKS.due("run", b.work.run(b.then(put, failedAttempt(b, change, b.fromBox(box))), 50), Builder.ROW);
            CHECKS.due("box(" + box + ")", b.work.box(box), Builder.ROW);
            CHECKS.due("another one", b.work.box((box + 1) % 8), Builder.NOTHING);
        }
    }

    private static void copies() {
        CHECKS.sentence("29: what 19 copied, all of it or ahead of a STORE, is as it was");
        Builder b = new Builder();
        int kept = b.slot(0);
        int two = b.whole(2);
        int one = b.whole(1);
        int ready = b.write(kept, one, b.whole(5));
        b.work.run(b.keep(b.row(two), 0, b.then(ready, failedAttempt(b, b.copy(b.row(two), kept, two), kept))), 100);
        CHECKS.duePlaces("19 of a ROW", b.work, 0, 5);

        Builder s = new Builder();
        int from = s.slot(0);
        int to = s.slot(1);
        two = s.whole(2);
        int fill = s.then(s.write(from, s.whole(0), s.markedLink(two)), s.write(from, s.whole(1), s.link(two)));
        int tried = s.caught(s.attempt(s.copy(from, to, two)), Builder.STORE, to);
        s.work.run(s.keep(s.links(two), 0, s.keep(s.markedRow(two), 1, s.then(fill, tried))), 100);
        CHECKS.duePlaces("19 that FAILED by STORE", s.work, 0, 0);
    }

    private static void asTheyWereAhead() {
        CHECKS.sentence("29: as they were ahead of it (not as at the beginning)");
        Builder b = new Builder();
        int kept = b.slot(0);
        int zero = b.whole(0);
        int ahead = b.all(b.write(kept, zero, b.whole(1)), b.write(kept, zero, b.whole(2)), b.toBox(0, b.whole(3)));
        int change = b.then(b.write(kept, zero, b.whole(4)), b.toBox(0, b.whole(5)));
        int behind = b.then(b.write(kept, b.whole(1), b.whole(6)), kept);
        b.work.run(b.keep(b.row(b.whole(2)), 0, b.then(ahead, failedAttempt(b, change, behind))), 100);
        CHECKS.duePlaces("the ROW", b.work, 2, 6);
        CHECKS.due("the BOX", b.work.boxed(0), 3);
    }

    private static void theRunEnds() {
        CHECKS.sentence("29: or the RUN ends in it");
        for (int by = Builder.SPENT; by <= Builder.LONG; by++) {
            Builder b = new Builder();
            int end = b.endsBy(by);
            int change = b.toBox(0, b.tell(b.whole(9)));
            int ready = b.toBox(0, b.whole(1));
            int attempt = b.attempt(b.then(b.attempt(change), end));
            int all = b.then(ready, b.caught(b.always(attempt, change), 0, change));
            CHECKS.due("it ends by", b.failureOf(all), by);
            CHECKS.due("the BOX", b.work.boxed(0), 1);
            CHECKS.due("OUT is left", b.work.count(1), 1);
            CHECKS.due("without an attempt it ends by", b.failureOf(b.then(ready, b.then(change, end))), by);
            CHECKS.due("without an attempt", b.work.boxed(0), 9);
            CHECKS.due("behind an attempt", b.failureOf(b.then(b.attempt(change), end)), by);
            CHECKS.due("what went through stays", b.work.boxed(0), 9);
        }
    }

    private static void slotsAreLeft() {
        CHECKS.sentence("29: (not SLOTS)");
        Builder b = new Builder();
        int change = b.keep(b.whole(4), 0, b.nothing());
        CHECKS.due("SLOT 0", b.wholeOf(failedAttempt(b, change, b.slot(0))), 4);
        int inside = b.caught(b.fail(b.whole(6)), 0, b.nothing());
        CHECKS.due("SLOT 7", b.wholeOf(b.always(failedAttempt(b, inside, b.slot(7)), b.nothing())), 1);
        int both = b.attempt(b.then(inside, b.row(b.whole(-1))));
        CHECKS.due("SLOT 7 of the inner 21", b.wholeOf(b.caught(b.always(both, b.tell(b.slot(7))), 0, b.slot(7))), 3);
        CHECKS.due("it was told", b.work.out(0), 6);
    }

    private static void latersAreLeft() {
        CHECKS.sentence("29: (not LATERS)");
        Builder b = new Builder();
        int force = b.force(b.slot(0));
        int worked = b.keep(b.later(b.tell(b.whole(2))), 0, failedAttempt(b, force, force));
        CHECKS.due("its VALUE", b.wholeOf(worked), 2);
        CHECKS.due("worked once", b.work.count(1), 1);
        int fail = b.fail(b.tell(b.whole(3)));
        int failed = b.keep(b.later(fail), 0, b.caught(b.attempt(force), 0, b.caught(force, 0, b.slot(7))));
        CHECKS.due("its FAILURE", b.wholeOf(failed), 3);
        CHECKS.due("it FAILED once", b.work.count(1), 1);
        int boxed = b.keep(b.later(b.toBox(0, b.whole(8))), 0, failedAttempt(b, force, force));
        CHECKS.due("the VALUE of one that boxed", b.wholeOf(boxed), 8);
        CHECKS.due("its BOX is as it was", b.work.box(0), Builder.NOTHING);
    }

    private static void outIsLeft() {
        CHECKS.sentence("29: (not OUT)");
        Builder b = new Builder();
        int one = b.tell(b.whole(1));
        b.work.run(failedAttempt(b, b.then(one, one), b.tell(b.whole(2))), 50);
        CHECKS.due("how many", b.work.count(1), 3);
        CHECKS.due("the first", b.work.out(0), 1);
        CHECKS.due("the last", b.work.out(2), 2);
    }

    private static void caughtInside() {
        CHECKS.sentence("29: if it FAILS (not if what FAILS in it is caught in it)");
        Builder b = new Builder();
        int fail = b.fail(b.whole(1));
        int inside = b.attempt(b.caught(b.then(b.toBox(0, b.whole(6)), fail), 0, b.whole(7)));
        CHECKS.due("its VALUE", b.wholeOf(inside), 7);
        CHECKS.due("the BOX", b.work.boxed(0), 6);
    }

    private static void nested() {
        CHECKS.sentence("29 in 29");
        Builder b = new Builder();
        int fail = b.fail(b.whole(1));
        int inner = b.attempt(b.toBox(0, b.whole(2)));
        int outer = b.attempt(b.then(inner, fail));
        CHECKS.due("outer FAILS", b.wholeOf(b.caught(outer, 0, b.slot(7))), 1);
        CHECKS.due("both are taken back", b.work.box(0), Builder.NOTHING);
        int innerFails = failedAttempt(b, b.toBox(0, b.whole(3)), b.toBox(1, b.whole(4)));
        int outerGoes = b.attempt(b.then(b.toBox(0, b.whole(5)), innerFails));
        CHECKS.due("inner FAILS", b.wholeOf(outerGoes), 4);
        CHECKS.due("of the outer one", b.work.boxed(0), 5);
        CHECKS.due("behind the inner one", b.work.boxed(1), 4);
        CHECKS.due("both FAIL", b.failureOf(b.attempt(b.then(outerGoes, fail))), Builder.OWN);
        CHECKS.due("all is taken back", b.work.box(0) + b.work.box(1), 2 * Builder.NOTHING);
    }

    private static void aheadOfWhatIsAlwaysDone() {
        CHECKS.sentence("29: it is as it was when y of 22, z of 21 are done");
        Builder b = new Builder();
        int fail = b.fail(b.whole(1));
        int attempt = b.attempt(b.then(b.toBox(0, b.whole(8)), fail));
        CHECKS.due("22", b.failureOf(b.always(attempt, b.toBox(1, b.fromBox(0)))), Builder.OWN);
        CHECKS.due("y saw NOTHING", b.work.box(1), Builder.NOTHING);
        CHECKS.due("21", b.work.run(b.caught(attempt, 0, b.fromBox(0)), 50), Builder.NOTHING);
        int inside = b.attempt(b.always(b.then(b.toBox(0, b.whole(8)), fail), b.toBox(1, b.fromBox(0))));
        CHECKS.due("22 inside", b.failureOf(inside), Builder.OWN);
        CHECKS.due("what y did is taken back, too", b.work.box(1), Builder.NOTHING);
    }

    /** What was made in the attempt, and is still in a SLOT, is as it was made: nothing of the attempt is left. */
    private static void whatIsNew() {
        CHECKS.sentence("attempts that leave nothing when they fail");
        Builder b = new Builder();
        int one = b.whole(1);
        int kept = b.slot(0);
        int row = b.keep(b.row(one), 0, b.write(kept, b.whole(0), one));
        CHECKS.due("a new ROW", b.work.run(failedAttempt(b, row, kept), 50), Builder.ROW);
        CHECKS.duePlaces("a new ROW", b.work, 0);
        int link = b.keep(b.link(one), 0, b.hold(kept, b.whole(2)));
        CHECKS.due("a new LINK", b.wholeOf(failedAttempt(b, link, b.held(kept))), 1);
        int boxed = b.keep(b.toBox(0, b.row(one)), 0, b.nothing());
        CHECKS.due("a new ROW in a SLOT and a BOX", b.work.run(failedAttempt(b, boxed, kept), 50), Builder.ROW);
        CHECKS.due("it is in the BOX no more", b.work.box(0), Builder.NOTHING);
    }

    private static void fromBoxes() {
        CHECKS.sentence("30 what BOX a holds.");
        for (int box = 0; box < 8; box++) {
            Builder b = new Builder();
            int all = b.fromBox(box);
            for (int i = 0; i < 8; i++) {
                all = b.then(b.toBox(i, b.whole(20 + i)), all);
            }
            CHECKS.due("BOX " + box, b.wholeOf(all), 20 + box);
            CHECKS.due("BOX " + box + " in the next RUN", b.work.run(b.fromBox(box), 1), Builder.NOTHING);
        }
    }

    private static void intoBoxes() {
        CHECKS.sentence("31 BOX a gets x (b); x.");
        Builder b = new Builder();
        int[] things = b.oneOfEachSort(b.whole(3));
        for (int i = 0; i < 8; i++) {
            CHECKS.due("it gives x", b.work.run(b.toBox(i, things[i]), 9), i);
            CHECKS.due("it holds x", b.work.run(b.then(b.toBox(i, things[i]), b.fromBox(i)), 9), i);
            CHECKS.due("another one", b.work.box((i + 1) % 8), Builder.NOTHING);
        }
        CHECKS.due("NOTHING again", b.work.run(b.then(b.toBox(0, things[0]), b.toBox(0, things[1])), 9), Builder.NOTHING);
        CHECKS.due("box(0)", b.work.box(0), Builder.NOTHING);
        int same = b.alike(b.toBox(0, things[5]), b.fromBox(0));
        CHECKS.due("it is one and the same", b.wholeOf(same), 1);
    }
}
