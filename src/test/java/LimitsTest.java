/** What ends a RUN at once: SPENT, MUCH, DEEP, LONG; and what just does not. */
public final class LimitsTest {
    private static final Checks CHECKS = new Checks("LimitsTest");
    private static final int MIN = Integer.MIN_VALUE, MAX = Integer.MAX_VALUE;

    public static void main(String[] args) {
        nothingOfCatching();
        nothingOfAlways();
        stepsOfEachKind();
        askingAgain();
        spent();
        spentAtTheAsking();
        much();
        muchCountsWhatArises();
        muchByALater();
        deep();
        deepIsAtOnce();
        deepIsOfActsThatAre();
        latersDoNotCount();
        tooLong();
        tooLongIsBehindOthers();
        latersAsIfNotBegun();
        asMuchAsCanBeMade();
        asMuchAsCanBeChanged();
        asManyFrames();
        asDeepAsItGoes();
        CHECKS.finish();
    }

    private static void nothingOfCatching() {
        CHECKS.sentence("A RUN ends at once, without anything of 21");
        for (int by = Builder.SPENT; by <= Builder.LONG; by++) {
            Builder b = new Builder();
            int end = b.endsBy(by);
            int tell = b.tell(b.whole(1));
            CHECKS.due("it ends", b.work.run(b.caught(b.caught(end, 0, tell), 0, tell), 200), -10 - by);
            CHECKS.due("not where z would begin", b.work.ended(2) < tell - 1 ? 1 : 0, 1);
            CHECKS.due("by", b.work.ended(0), by);
            CHECKS.due("no code", b.work.ended(1), 0);
            CHECKS.due("z is not done", b.work.count(1), 0);
            CHECKS.due("gave", b.work.gave(), 0);
            CHECKS.duePlace("no VALUE", b.work, 0, "0");
        }
    }

    private static void nothingOfAlways() {
        CHECKS.sentence("A RUN ends at once, without anything of 22");
        for (int by = Builder.SPENT; by <= Builder.LONG; by++) {
            Builder b = new Builder();
            int end = b.endsBy(by);
            int tell = b.tell(b.whole(1));
            CHECKS.due("it ends", b.work.run(b.always(b.always(end, tell), tell), 200), -10 - by);
            CHECKS.due("y is not done", b.work.count(1), 0);
            CHECKS.due("not where y would begin", b.work.ended(2) < tell - 1 ? 1 : 0, 1);
            CHECKS.due("it ends in y", b.failureOf(b.always(b.fail(tell), end)), by);
            CHECKS.due("x's FAILURE does not go on", b.work.ended(1), 0);
        }
    }

    private static void steps(String what, Builder b, int act, int due) {
        int answer = b.work.run(act, 200);
        int gave = b.work.gave();
        CHECKS.due(what + ": STEPS", b.work.ended(3), due);
        CHECKS.due(what + ": just enough", b.work.run(act, due), answer);
        CHECKS.due(what + ": it gave", b.work.gave(), gave);
        for (int less = 1; less < due; less++) {
            CHECKS.due(what + " with " + less, b.work.run(act, less), -19);
            CHECKS.due(what + " with " + less + ": STEPS", b.work.ended(3), less);
        }
    }

    private static void stepsOfEachKind() {
        CHECKS.sentence("9 SPENT: each ACT that begins is a STEP");
        Builder b = new Builder();
        int one = b.whole(1);
        steps("0", b, one, 1);
        steps("1", b, b.slot(0), 1);
        steps("2", b, b.nothing(), 1);
        steps("3", b, b.then(one, one), 3);
        steps("4", b, b.keep(one, 0, one), 3);
        steps("5", b, b.plus(one, one), 3);
        steps("9", b, b.alike(one, one), 3);
        steps("10", b, b.row(one), 2);
        steps("13", b, b.link(one), 2);
        steps("15", b, b.read(b.row(one), b.whole(0)), 4);
        steps("16", b, b.write(b.row(one), b.whole(0), one), 5);
        steps("17", b, b.held(b.link(one)), 3);
        steps("18", b, b.hold(b.link(one), one), 4);
        steps("19", b, b.copy(b.row(one), b.row(one), one), 6);
        int fail = b.fail(one);
        steps("20", b, fail, 2);
        steps("21", b, b.caught(fail, 0, one), 4);
        steps("21 without a FAILURE", b, b.caught(one, 0, fail), 2);
        steps("22", b, b.always(fail, one), 4);
        steps("23", b, b.choose(one, one, fail), 3);
        steps("25", b, b.call(one, one), 3);
        steps("25 of none", b, b.call(59, one), 2);
        steps("26", b, b.tell(one), 2);
        steps("27", b, b.later(fail), 1);
        steps("28", b, b.force(b.later(one)), 3);
        int force = b.force(b.slot(0));
        steps("28 again", b, b.keep(b.later(one), 0, b.then(force, force)), 8);
        steps("29", b, b.attempt(one), 2);
        steps("30", b, b.fromBox(0), 1);
        steps("31", b, b.toBox(0, one), 2);
    }

    /** keep, WHOLE, 24, x; for each round keep, plus, SLOT, WHOLE, NOTHING, the asking, x. */
    private static void askingAgain() {
        CHECKS.sentence("and so is each time that 24 asks x again");
        for (int n = 0; n <= 3; n++) {
            Builder b = new Builder();
            int count = b.slot(0);
            int body = b.keep(b.plus(count, b.whole(-1)), 0, b.nothing());
            steps(n + " rounds", b, b.keep(b.whole(n), 0, b.loop(count, body)), 4 + 7 * n);
        }
    }

    private static void spent() {
        CHECKS.sentence("9 SPENT: one more than it may take");
        Builder b = new Builder();
        int one = b.whole(1);
        int two = b.whole(2);
        int plus = b.plus(one, two);
        CHECKS.due("just enough", b.work.run(plus, 3), Builder.WHOLE);
        CHECKS.dueEnd("just enough", b.work, 0, 0, -1, 3, 0);
        CHECKS.due("one less", b.work.run(plus, 2), -19);
        CHECKS.dueEnd("at y", b.work, Builder.SPENT, 0, two, 2, 0);
        CHECKS.due("two less", b.work.run(plus, 1), -19);
        CHECKS.dueEnd("at x", b.work, Builder.SPENT, 0, one, 1, 0);
        int put = b.then(b.toBox(0, b.tell(one)), two);
        CHECKS.due("at the last ACT", b.work.run(put, 4), -19);
        CHECKS.dueEnd("at the last ACT", b.work, Builder.SPENT, 0, two, 4, 0);
        CHECKS.due("what was done stays", b.work.boxed(0), 1);
        CHECKS.due("what was told stays", b.work.out(0), 1);
        Builder f = new Builder();
        int fail = f.fail(f.whole(1));
        int caught = f.caught(fail, 0, f.slot(7));
        CHECKS.due("z of 21 has no STEP", f.work.run(caught, 3), -19);
        CHECKS.dueEnd("z of 21", f.work, Builder.SPENT, 0, f.work.told(caught, 3), 3, 1);
        int always = f.always(fail, f.nothing());
        CHECKS.due("y of 22 has no STEP", f.work.run(always, 3), -19);
        CHECKS.dueEnd("y of 22", f.work, Builder.SPENT, 0, f.work.told(always, 2), 3, 1);
        CHECKS.due("the ACT of 25 has no STEP", f.work.run(f.call(fail, 0), 2), -19);
        CHECKS.due("at that ACT", f.work.ended(2), fail);
        CHECKS.due("the ACT of a LATER has no STEP", f.work.run(f.force(f.later(fail)), 2), -19);
        CHECKS.due("at that ACT", f.work.ended(2), fail);
    }

    private static void spentAtTheAsking() {
        CHECKS.sentence("9 SPENT: each time that 24 asks x again: one more than it may take");
        Builder b = new Builder();
        int one = b.whole(1);
        int two = b.whole(2);
        int loop = b.loop(one, two);
        int[] at = {one, two, loop, one, two, loop, one};
        for (int i = 0; i < at.length; i++) {
            CHECKS.due("loop", b.work.run(loop, 1 + i), -19);
            CHECKS.dueEnd("after " + (1 + i), b.work, Builder.SPENT, 0, at[i], 1 + i, 0);
        }
        CHECKS.due("200", b.work.run(loop, 200), -19);
        CHECKS.due("200 STEPS", b.work.ended(3), 200);
    }

    /** The ACT so many times, one after the other. */
    private static int inTurn(Builder b, int act, int many) {
        int all = act;
        for (int i = 1; i < many; i++) {
            all = b.then(act, all);
        }
        return all;
    }

    private static void much() {
        CHECKS.sentence("10 MUCH: a 21st FAILURE arises in it");
        Builder b = new Builder();
        int five = b.whole(5);
        int fail = b.fail(five);
        int twenty = inTurn(b, b.caught(fail, 0, five), 20);
        CHECKS.due("20 FAILURES", b.work.run(twenty, 200), Builder.WHOLE);
        CHECKS.due("how many arose", b.work.ended(4), 20);
        int last = b.fail(five);
        int more = b.caught(b.always(b.then(twenty, last), b.tell(five)), 0, b.tell(five));
        CHECKS.due("a 21st", b.work.run(more, 200), -20);
        CHECKS.dueEnd("a 21st", b.work, Builder.MUCH, 0, last, b.work.ended(3), 21);
        CHECKS.due("nothing of 21, 22", b.work.count(1), 0);
        CHECKS.due("it is no more than an OWN in the next RUN", b.work.run(last, 9), -17);
        CHECKS.due("how many arose in that", b.work.ended(4), 1);
    }

    /** A FAILURE that goes on, through 22 or out of a FRAME or a LATER, is the same one. */
    private static void muchCountsWhatArises() {
        CHECKS.sentence("MUCH: a 21st FAILURE arises (none that goes on)");
        Builder b = new Builder();
        int one = b.whole(1);
        int act = b.fail(one);
        for (int i = 0; i < 24; i++) {
            act = b.always(act, one);
        }
        CHECKS.due("through 24 times 22", b.work.run(act, 200), -17);
        CHECKS.due("how many arose", b.work.ended(4), 1);
        Builder o = new Builder();
        int other = o.whole(1);
        int out = o.fail(other);
        for (int i = 0; i < 7; i++) {
            out = o.force(o.later(o.call(o.caught(out, Builder.RING, other), other)));
        }
        CHECKS.due("out of 21, 25, 28", o.work.run(out, 200), -17);
        CHECKS.due("how many arose", o.work.ended(4), 1);
    }

    private static void muchByALater() {
        CHECKS.sentence("MUCH: a 21st FAILURE arises (28: it FAILS so each time)");
        Builder b = new Builder();
        int force = b.force(b.slot(0));
        int again = b.caught(force, 0, b.slot(7));
        int later = b.later(b.fail(b.whole(3)));
        CHECKS.due("20 times", b.work.run(b.keep(later, 0, inTurn(b, again, 20)), 200), Builder.WHOLE);
        CHECKS.due("how many arose", b.work.ended(4), 20);
        CHECKS.due("a 21st time", b.work.run(b.keep(later, 0, inTurn(b, again, 21)), 200), -20);
        CHECKS.dueEnd("a 21st time", b.work, Builder.MUCH, 0, force, b.work.ended(3), 21);
    }

    /** A 25 of itself that goes on while SLOT 0 is not 0, then does the ACT: called with n, n + 1 FRAMES. */
    private static int countDown(Builder b, int atLast) {
        int n = b.slot(0);
        int less = b.plus(n, b.whole(-1));
        int call = b.call(b.work.count(0) + 1, less);
        return b.choose(n, call, atLast);
    }

    private static void deep() {
        CHECKS.sentence("11 DEEP: a ninth FRAME would be at work at once by 25");
        Builder b = new Builder();
        int start = countDown(b, b.whole(77));
        int inner = b.work.told(start, 2);
        for (int frames = 1; frames <= 8; frames++) {
            CHECKS.due(frames + " FRAMES", b.wholeOf(b.call(start, b.whole(frames - 1))), 77);
        }
        int nine = b.call(start, b.whole(8));
        CHECKS.due("9 FRAMES", b.work.run(b.caught(b.always(nine, b.tell(start)), 0, nine), 200), -21);
        CHECKS.dueEnd("9 FRAMES", b.work, Builder.DEEP, 0, inner, b.work.ended(3), 0);
        CHECKS.due("nothing of 21, 22", b.work.count(1), 0);
        CHECKS.due("8 in the next RUN", b.wholeOf(b.call(start, b.whole(7))), 77);
        Builder s = new Builder();
        int itself = s.call(2, s.tell(s.whole(4)));
        CHECKS.due("an ACT that does itself", s.work.run(itself, 200), -21);
        CHECKS.dueEnd("an ACT that does itself", s.work, Builder.DEEP, 0, itself, 27, 0);
        CHECKS.due("x of the ninth is done", s.work.count(1), 9);
    }

    private static void deepIsAtOnce() {
        CHECKS.sentence("DEEP: at work at once (not one after the other)");
        Builder b = new Builder();
        int one = b.whole(1);
        int call = b.call(one, one);
        CHECKS.due("20 FRAMES, one after the other", b.wholeOf(inTurn(b, call, 20)), 1);
        Builder f = new Builder();
        int two = f.whole(2);
        int left = f.caught(f.call(f.fail(two), two), 0, two);
        CHECKS.due("20 FRAMES that FAILED", f.wholeOf(inTurn(f, left, 20)), 2);
        Builder x = new Builder();
        int inX = x.whole(3);
        for (int i = 0; i < 20; i++) {
            inX = x.call(0, inX);
        }
        CHECKS.due("25 in x of 25 is ahead of its FRAME", x.wholeOf(inX), 3);
    }

    private static void deepIsOfActsThatAre() {
        CHECKS.sentence("DEEP: a ninth FRAME would be (none where there is no ACT)");
        Builder b = new Builder();
        int start = countDown(b, b.call(59, b.whole(1)));
        CHECKS.due("in the eighth FRAME", b.work.run(b.call(start, b.whole(7)), 200), Builder.NOTHING);
    }

    private static void latersDoNotCount() {
        CHECKS.sentence("(28 does not count)");
        Builder b = new Builder();
        int later = b.whole(5);
        for (int i = 0; i < 10; i++) {
            later = b.force(b.later(later));
        }
        CHECKS.due("10 at once", b.wholeOf(later), 5);
        int start = countDown(b, later);
        CHECKS.due("10 in the eighth FRAME", b.wholeOf(b.call(start, b.whole(7))), 5);
        Builder c = new Builder();
        int inLater = countDown(c, c.force(c.later(c.call(0, c.whole(6)))));
        CHECKS.due("25 in a LATER in the seventh FRAME", c.wholeOf(c.call(inLater, c.whole(6))), 6);
        CHECKS.due("25 in a LATER in the eighth FRAME", c.failureOf(c.call(inLater, c.whole(7))), Builder.DEEP);
    }

    private static void tooLong() {
        CHECKS.sentence("12 LONG: 10 to 12 above 16");
        for (int length : new int[] {15, 16, 17, 18, MAX}) {
            Builder b = new Builder();
            int n = b.whole(length);
            int[] rows = {b.row(n), b.links(n), b.markedRow(n)};
            for (int i = 0; i < 3; i++) {
                CHECKS.due((10 + i) + " of " + length, b.work.run(rows[i], 9), length > 16 ? -22 : Builder.ROW + i);
                CHECKS.due("gave", b.work.gave(), length > 16 ? 0 : length);
                if (length > 16) {
                    CHECKS.dueEnd("LONG", b.work, Builder.LONG, 0, rows[i], 2, 0);
                }
            }
        }
    }

    private static void tooLongIsBehindOthers() {
        CHECKS.sentence("10 to 12: SIZE below 0; LONG: above 16 (a WHOLE is wanted)");
        Builder b = new Builder();
        CHECKS.due("MIN is below 0", b.failureOf(b.row(b.whole(MIN))), Builder.SIZE);
        CHECKS.due("NOTHING", b.failureOf(b.links(b.nothing())), Builder.NULL);
        CHECKS.due("a ROW", b.failureOf(b.markedRow(b.row(b.whole(16)))), Builder.CAST);
        CHECKS.due("a FAILURE of x", b.failureOf(b.row(b.fail(b.whole(17)))), Builder.OWN);
    }

    /** What a LATER has become is not shown when a RUN has ended, but that it is there, and that a new one is fresh. */
    private static void latersAsIfNotBegun() {
        CHECKS.sentence("A LATER that was being worked then is as if it had not begun.");
        for (int by = Builder.SPENT; by <= Builder.LONG; by++) {
            Builder b = new Builder();
            int force = b.force(b.fromBox(0));
            int act = b.then(b.toBox(0, b.later(b.choose(b.slot(0), b.whole(4), b.endsBy(by)))), force);
            CHECKS.due("it ends", b.failureOf(b.keep(b.whole(0), 0, act)), by);
            CHECKS.due("the BOX has it", b.work.box(0), Builder.LATER);
            CHECKS.due("the next RUN", b.wholeOf(b.keep(b.whole(1), 0, act)), 4);
        }
    }

    /** As many rows as there can be, each of 16 places: in the last one the last place can be changed. */
    private static void asMuchAsCanBeMade() {
        CHECKS.sentence("STEPS (1 to 200): so much can be made");
        Builder b = new Builder();
        int sixteen = b.whole(16);
        int row = b.row(sixteen);
        int many = sixteen;
        for (int i = 0; i < 36; i++) {
            many = b.copy(row, row, many);
        }
        int kept = b.slot(0);
        int last = b.whole(15);
        int write = b.then(b.write(kept, last, last), b.read(kept, last));
        CHECKS.due("73 ROWS of 16", b.wholeOf(b.then(many, b.keep(row, 0, write))), 15);
        CHECKS.due("nearly all STEPS", b.work.ended(3) > 190 ? 1 : 0, 1);

        Builder l = new Builder();
        int link = l.whole(15);
        for (int i = 0; i < 48; i++) {
            link = l.link(link);
        }
        CHECKS.due("192 LINKS", l.work.run(l.all(link, link, link, link), 200), Builder.LINK);
    }

    /** As many changes as there can be, copies whose z are copies: all of them are taken back. */
    private static void asMuchAsCanBeChanged() {
        CHECKS.sentence("29: all places (as many as 200 STEPS can change) are as they were ahead of it");
        Builder b = new Builder();
        int from = b.slot(0);
        int to = b.slot(1);
        int sixteen = b.whole(16);
        int copy = sixteen;
        for (int i = 0; i < 27; i++) {
            copy = b.copy(from, to, copy);
        }
        int last = b.whole(15);
        int attempt = b.attempt(b.all(b.write(from, last, last), copy, copy, b.fail(b.read(to, last))));
        int act = b.caught(attempt, Builder.OWN, b.plus(b.slot(7), b.plus(b.read(from, last), b.read(to, last))));
        CHECKS.due("54 copies of 16: 15 was copied, 0 is left of it",
                b.wholeOf(b.keep(b.row(sixteen), 0, b.keep(b.row(sixteen), 1, act))), 15);
        CHECKS.due("nearly all STEPS", b.work.ended(3) > 190 ? 1 : 0, 1);
    }

    /** Many FRAMES, in x of one another; then two more, each with a LATER that needs its own. */
    private static void asManyFrames() {
        CHECKS.sentence("STEPS (1 to 200): so many FRAMES");
        Builder b = new Builder();
        int slot = b.slot(0);
        int call = b.whole(6);
        for (int i = 0; i < 44; i++) {
            call = b.call(slot, call);
        }
        int later = b.later(slot);
        int sum = b.plus(b.force(b.slot(2)), b.force(b.slot(3)));
        int two = b.keep(b.call(later, b.whole(3)), 2, b.keep(b.call(later, b.whole(4)), 3, sum));
        CHECKS.due("90 FRAMES", b.wholeOf(b.then(b.plus(call, call), two)), 7);
        CHECKS.due("nearly all STEPS", b.work.ended(3) > 190 ? 1 : 0, 1);
    }

    /** 200 ACTS that have begun and not ended: attempts in attempts, FRAME upon FRAME, 28 in 28. */
    private static void asDeepAsItGoes() {
        CHECKS.sentence("STEPS (1 to 200): so many ACTS can have begun and not ended");
        Builder b = new Builder();
        int act = b.call(59, b.whole(0));
        while (b.work.count(0) < 60) {
            act = b.attempt(act);
        }
        CHECKS.due("attempts", b.work.run(act, 200), -19);
        CHECKS.dueEnd("attempts", b.work, Builder.SPENT, 0, b.work.ended(2), 200, 0);
        Builder l = new Builder();
        int last = l.whole(9);
        while (l.work.count(0) < 59) {
            last = l.force(l.later(last));
        }
        CHECKS.due("LATERS", l.wholeOf(last), 9);
    }
}
