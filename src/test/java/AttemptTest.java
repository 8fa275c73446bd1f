/** KINDS 29 to 31 and promises 8, 9 and 10: BOXES, and attempts that leave nothing when they FAIL. */
public final class AttemptTest {
    private static final Checks CHECKS = new Checks("AttemptTest");

    public static void main(String[] args) {
        boxes();
        wrongBoxes();
        successKeeps();
        failureRestores();
        whatIsNotRestored();
        nested();
        whatIsNew();
        theRunEnds();
        CHECKS.finish();
    }

    private static void boxes() {
        Builder b = new Builder();
        int three = b.whole(3);
        int[] things = {three, b.nothing(), b.row(three), b.links(three), b.markedRow(three), b.link(three),
            b.markedLink(three), b.later(three)};
        for (int i = 0; i < 8; i++) {
            CHECKS.due("31 gives x", b.work.run(b.toBox(i, things[i]), 9), i);
            CHECKS.due("box", b.work.box(i), i);
            CHECKS.due("boxed", b.work.boxed(i), i == 0 || (i >= 2 && i <= 4) ? 3 : 0);
            CHECKS.due("another", b.work.box((i + 1) % 8), Builder.NOTHING);
        }
        CHECKS.due("30", b.wholeOf(b.then(b.toBox(6, three), b.fromBox(6))), 3);
        CHECKS.due("30 of another", b.work.run(b.fromBox(6), 9), Builder.NOTHING);
        CHECKS.due("BOXES are empty in a new RUN", b.work.box(6), Builder.NOTHING);

        Builder s = new Builder();
        int zero = s.whole(0);
        int link = s.link(zero);
        int put = s.all(s.toBox(1, s.toBox(0, link)), s.toBox(2, link), s.toBox(4, s.toBox(3, zero)),
                s.toBox(5, s.whole(1)), s.nothing());
        s.work.run(put, 50);
        CHECKS.due("one and the same", s.work.same(0, 1), 1);
        CHECKS.due("another LINK", s.work.same(0, 2), 0);
        CHECKS.due("WHOLES alike", s.work.same(3, 4), 1);
        CHECKS.due("WHOLES", s.work.same(4, 5), 0);
        CHECKS.due("NOTHING", s.work.same(6, 7), 1);
        CHECKS.due("NOTHING and 0", s.work.same(3, 7), 0);
        CHECKS.due("with itself", s.work.same(2, 2), 1);
        s.work.run(s.then(put, s.fail(zero)), 50);
        CHECKS.due("a FAILURE leaves BOXES", s.work.box(0), Builder.LINK);
    }

    private static void wrongBoxes() {
        SideWork work = new SideWork();
        for (int wrong : new int[] {-1, 8, Integer.MIN_VALUE, Integer.MAX_VALUE}) {
            CHECKS.due("box", work.box(wrong), SideWork.OUTSIDE);
            CHECKS.due("boxed", work.boxed(wrong), 0);
            CHECKS.due("same b", work.same(wrong, 0), SideWork.OUTSIDE);
            CHECKS.due("same c", work.same(0, wrong), SideWork.OUTSIDE);
        }
    }

    private static void successKeeps() {
        Builder b = new Builder();
        CHECKS.due("the VALUE", b.wholeOf(b.attempt(b.toBox(2, b.whole(6)))), 6);
        CHECKS.due("the BOX", b.work.boxed(2), 6);
    }

    /** BOX 0: a ROW, BOX 1: LINKS, BOX 2: a LINK, BOX 3: 1; the attempt changes all of them and FAILS. */
    private static void failureRestores() {
        Builder b = new Builder();
        int zero = b.whole(0);
        int one = b.whole(1);
        int two = b.whole(2);
        int row = b.fromBox(0);
        int links = b.fromBox(1);
        int link = b.fromBox(2);
        int ready = b.all(b.toBox(0, b.row(two)), b.toBox(1, b.links(two)), b.toBox(2, b.link(one)), b.toBox(3, one),
                b.write(row, one, two), b.write(links, zero, link));
        int change = b.all(b.write(row, one, zero), b.copy(b.row(two), row, two), b.write(links, zero, b.nothing()),
                b.hold(link, two), b.hold(link, zero), b.toBox(3, two), b.toBox(0, two), b.fail(two));
        int attempt = b.caught(b.attempt(change), 0, b.slot(7));
        CHECKS.due("it FAILS", b.wholeOf(b.then(ready, attempt)), 2);
        CHECKS.due("BOX 0", b.work.box(0), Builder.ROW);
        CHECKS.due("BOX 3", b.work.boxed(3), 1);
        CHECKS.due("the ROW", b.work.run(b.all(ready, attempt, row), 100), Builder.ROW);
        CHECKS.duePlace("the ROW", b.work, 0, "0");
        CHECKS.duePlace("the ROW", b.work, 1, "2");
        CHECKS.due("the LINKS", b.work.run(b.all(ready, attempt, links), 100), Builder.LINKS);
        CHECKS.duePlace("the LINKS", b.work, 0, "1");
        CHECKS.due("the LINK", b.wholeOf(b.all(ready, attempt, b.held(link))), 1);
    }

    private static void whatIsNotRestored() {
        Builder b = new Builder();
        int one = b.whole(1);
        int fail = b.fail(one);
        int kept = b.slot(0);
        int caughtSlot = b.caught(b.attempt(b.keep(b.whole(4), 0, fail)), 0, kept);
        CHECKS.due("SLOTS", b.wholeOf(caughtSlot), 4);
        CHECKS.due("OUT", b.wholeOf(b.caught(b.attempt(b.then(b.tell(one), fail)), 0, one)), 1);
        CHECKS.due("it is told", b.work.count(1), 1);
        int force = b.force(kept);
        int later = b.keep(b.later(b.tell(one)), 0, b.then(b.caught(b.attempt(b.then(force, fail)), 0, one), force));
        CHECKS.due("LATERS", b.wholeOf(later), 1);
        CHECKS.due("worked once", b.work.count(1), 1);
    }

    private static void nested() {
        Builder b = new Builder();
        int fail = b.fail(b.whole(1));
        int inner = b.attempt(b.toBox(0, b.whole(2)));
        int outer = b.attempt(b.then(inner, fail));
        CHECKS.due("outer FAILS", b.wholeOf(b.caught(outer, 0, b.slot(7))), 1);
        CHECKS.due("both are taken back", b.work.box(0), Builder.NOTHING);
        int innerFails = b.caught(b.attempt(b.then(b.toBox(0, b.whole(3)), fail)), 0, b.toBox(1, b.whole(4)));
        int outerGoes = b.attempt(b.then(b.toBox(0, b.whole(5)), innerFails));
        CHECKS.due("inner FAILS", b.wholeOf(outerGoes), 4);
        CHECKS.due("of the outer one", b.work.boxed(0), 5);
        CHECKS.due("behind the inner one", b.work.boxed(1), 4);
        int inside = b.attempt(b.caught(b.then(b.toBox(0, b.whole(6)), fail), 0, b.whole(7)));
        CHECKS.due("a FAILURE caught inside", b.wholeOf(inside), 7);
        CHECKS.due("takes nothing back", b.work.boxed(0), 6);
        int always = b.caught(b.always(b.attempt(b.then(b.toBox(0, b.whole(8)), fail)), b.toBox(1, b.fromBox(0))), 0, fail);
        CHECKS.due("22", b.failureOf(always), Builder.OWN);
        CHECKS.due("it is taken back ahead of y", b.work.box(1), Builder.NOTHING);
    }

    /** What was made in the attempt, and is still in a SLOT, is as it was made: nothing of the attempt is left. */
    private static void whatIsNew() {
        Builder b = new Builder();
        int one = b.whole(1);
        int kept = b.slot(0);
        int fail = b.fail(one);
        int row = b.keep(b.row(one), 0, b.then(b.write(kept, b.whole(0), one), fail));
        CHECKS.due("a new ROW", b.work.run(b.caught(b.attempt(row), 0, kept), 50), Builder.ROW);
        CHECKS.duePlace("a new ROW", b.work, 0, "0");
        int link = b.keep(b.link(one), 0, b.then(b.hold(kept, b.whole(2)), fail));
        CHECKS.due("a new LINK", b.wholeOf(b.caught(b.attempt(link), 0, b.held(kept))), 1);
    }

    private static void theRunEnds() {
        Builder b = new Builder();
        int one = b.whole(1);
        int endless = b.loop(one, one);
        int tooLong = b.row(b.whole(17));
        int change = b.toBox(0, b.tell(b.whole(9)));
        int ready = b.toBox(0, one);
        for (int end : new int[] {endless, tooLong}) {
            int attempt = b.attempt(b.then(b.attempt(change), end));
            CHECKS.due("it ends", b.failureOf(b.then(ready, b.caught(attempt, 0, one))) >= Builder.SPENT ? 1 : 0, 1);
            CHECKS.due("as it was ahead", b.work.boxed(0), 1);
            CHECKS.due("OUT is left", b.work.count(1), 1);
            b.work.run(b.then(ready, b.then(change, end)), 100);
            CHECKS.due("without an attempt", b.work.boxed(0), 9);
        }
    }
}
