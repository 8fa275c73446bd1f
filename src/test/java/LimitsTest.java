/** What ends a RUN at once: SPENT, MUCH, DEEP, LONG; and how many RUNS there can be. */
public final class LimitsTest {
    private static final Checks CHECKS = new Checks("LimitsTest");

    public static void main(String[] args) {
        spent();
        spentAtTheAsking();
        much();
        deep();
        tooLong();
        deepNesting();
        runs();
        CHECKS.finish();
    }

    private static void ended(String what, SideWork work, int by, int at, int steps, int failures) {
        int[] due = {by, 0, at, steps, failures};
        for (int i = 0; i < 5; i++) {
            CHECKS.due(what + ": ended(" + i + ")", work.ended(i), due[i]);
        }
        CHECKS.due(what + ": gave()", work.gave(), 0);
        CHECKS.duePlace(what, work, 0, "0");
    }

    private static void spent() {
        Builder b = new Builder();
        int one = b.whole(1);
        int two = b.whole(2);
        int plus = b.plus(one, two);
        int tell = b.tell(two);
        int any = b.caught(b.always(plus, tell), 0, tell);
        CHECKS.due("just enough", b.work.run(plus, 3), 0);
        CHECKS.due("STEPS", b.work.ended(3), 3);
        CHECKS.due("one less", b.work.run(plus, 2), -19);
        ended("at y", b.work, Builder.SPENT, two, 2, 0);
        CHECKS.due("two less", b.work.run(plus, 1), -19);
        ended("at x", b.work, Builder.SPENT, one, 1, 0);
        CHECKS.due("nothing of 21, 22", b.work.run(any, 4), -19);
        ended("in 22", b.work, Builder.SPENT, two, 4, 0);
        CHECKS.due("nothing is told", b.work.count(1), 0);
    }

    private static void spentAtTheAsking() {
        Builder b = new Builder();
        int one = b.whole(1);
        int two = b.whole(2);
        int loop = b.loop(one, two);
        int[] at = {one, two, loop, one, two, loop, one};
        for (int i = 0; i < at.length; i++) {
            CHECKS.due("loop", b.work.run(loop, 1 + i), -19);
            ended("after " + (1 + i), b.work, Builder.SPENT, at[i], 1 + i, 0);
        }
        CHECKS.due("200", b.work.run(loop, 200), -19);
        CHECKS.due("200 STEPS", b.work.ended(3), 200);
    }

    /** Each call of it FAILS once and catches that. */
    private static void much() {
        Builder b = new Builder();
        int five = b.whole(5);
        int fail = b.fail(five);
        int caught = b.caught(fail, 0, five);
        int four = caught;
        for (int i = 0; i < 2; i++) {
            four = b.then(four, four);
        }
        int sixteen = b.then(b.then(four, four), b.then(four, four));
        int twenty = b.then(sixteen, four);
        CHECKS.due("20 FAILURES", b.work.run(twenty, 200), 0);
        CHECKS.due("how many arose", b.work.ended(4), 20);
        int more = b.toBox(0, b.attempt(b.caught(b.always(b.then(twenty, b.then(b.toBox(1, five), fail)), b.tell(five)), 0, five)));
        CHECKS.due("a 21st", b.work.run(more, 200), -20);
        ended("MUCH", b.work, Builder.MUCH, fail, b.work.ended(3), 21);
        CHECKS.due("nothing of 22", b.work.count(1), 0);
        CHECKS.due("the attempt is taken back", b.work.box(1), Builder.NOTHING);

        Builder l = new Builder();
        int force = l.force(l.slot(0));
        int again = l.caught(force, 0, l.slot(7));
        int loop = l.loop(l.whole(1), again);
        CHECKS.due("a LATER that FAILS each time", l.work.run(l.keep(l.later(l.fail(l.whole(3))), 0, loop), 200), -20);
        ended("MUCH by a LATER", l.work, Builder.MUCH, force, l.work.ended(3), 21);
    }

    private static void deep() {
        Builder c = new Builder();
        int n = c.slot(0);
        int less = c.plus(n, c.whole(-1));
        int end = c.whole(77);
        int call = c.call(c.work.count(0) + 1, less);
        int start = c.choose(n, call, end);
        for (int calls = 1; calls <= 9; calls++) {
            int outer = c.call(start, c.whole(calls - 1));
            int answer = c.work.run(c.caught(outer, 0, end), 200);
            CHECKS.due(calls + " FRAMES by 25", answer, calls <= 8 ? 0 : -21);
            if (calls <= 8) {
                CHECKS.due("its VALUE", c.work.gave(), 77);
            } else {
                CHECKS.due("DEEP", c.work.ended(0), Builder.DEEP);
                CHECKS.due("at 25", c.work.ended(2), call);
                CHECKS.due("no code", c.work.ended(1), 0);
                CHECKS.due("no FAILURE", c.work.ended(4), 0);
            }
        }
        framesOneAfterTheOther();
        framesLeftByFailures();
        frameThatIsNotThere();
        latersDoNotCount();
    }

    private static void framesOneAfterTheOther() {
        Builder b = new Builder();
        int call = b.call(0, b.whole(1));
        int many = call;
        for (int i = 0; i < 4; i++) {
            many = b.then(many, many);
        }
        CHECKS.due("16 FRAMES, not at once", b.wholeOf(many), 1);
    }

    private static void framesLeftByFailures() {
        Builder b = new Builder();
        int one = b.whole(1);
        int fail = b.fail(one);
        int call = b.caught(b.call(fail, one), 0, one);
        int many = call;
        for (int i = 0; i < 4; i++) {
            many = b.then(many, many);
        }
        CHECKS.due("16 FRAMES that FAILED", b.wholeOf(many), 1);
    }

    private static void frameThatIsNotThere() {
        Builder b = new Builder();
        int n = b.slot(0);
        int missing = b.call(59, n);
        int less = b.plus(n, b.whole(-1));
        int call = b.call(b.work.count(0) + 1, less);
        int start = b.choose(n, call, missing);
        CHECKS.due("no ninth FRAME where no ACT is", b.work.run(b.call(start, b.whole(7)), 200), Builder.NOTHING);
    }

    private static void latersDoNotCount() {
        Builder b = new Builder();
        int n = b.slot(0);
        int forced = b.force(b.later(b.force(b.later(b.whole(5)))));
        int less = b.plus(n, b.whole(-1));
        int call = b.call(b.work.count(0) + 1, less);
        int start = b.choose(n, call, forced);
        CHECKS.due("28 in the eighth FRAME", b.wholeOf(b.call(start, b.whole(7))), 5);
    }

    private static void tooLong() {
        Builder b = new Builder();
        int one = b.whole(1);
        int row = b.row(b.whole(17));
        int act = b.caught(b.always(row, b.tell(one)), 0, one);
        CHECKS.due("LONG", b.work.run(act, 50), -22);
        ended("LONG", b.work, Builder.LONG, row, 4, 0);
        CHECKS.due("nothing of 21, 22", b.work.count(1), 0);
    }

    /** As deep as 200 STEPS go: attempts in attempts, FRAME upon FRAME. */
    private static void deepNesting() {
        Builder b = new Builder();
        int act = b.call(59, b.whole(0));
        while (b.work.count(0) < 60) {
            act = b.attempt(act);
        }
        CHECKS.due("200 deep", b.work.run(act, 200), -19);
        ended("200 deep", b.work, Builder.SPENT, b.work.ended(2), 200, 0);
    }

    /** Makes and changes much of all there is: each RUN must have the room that the first had. */
    private static int dearAct(Builder b) {
        int sixteen = b.whole(16);
        int row = b.row(sixteen);
        int kept = b.slot(0);
        int four = b.later(b.whole(4));
        int write = b.write(kept, b.whole(15), b.call(b.force(b.slot(0)), four));
        int copy = b.copy(row, kept, sixteen);
        int much = copy;
        for (int i = 0; i < 3; i++) {
            much = b.then(much, much);
        }
        return b.keep(row, 0, b.all(much, much, much, write, kept));
    }

    private static void runs() {
        Builder b = new Builder();
        int act = dearAct(b);
        for (int i = 0; i < 400; i++) {
            if (i == 200) {
                b.work.clear();
                dearAct(b);
            }
            CHECKS.due("RUN", b.work.run(act, 200), 2);
            CHECKS.duePlace("RUN", b.work, 15, "4");
        }
        CHECKS.due("a 401st", b.work.run(b.whole(1), 2), SideWork.ROOM);
        CHECKS.due("it changes nothing", b.work.gave(), 16);
        CHECKS.due("OUTSIDE ahead of ROOM", b.work.run(act, 0), SideWork.OUTSIDE);
        CHECKS.due("UNKNOWN ahead of ROOM", b.work.run(59, 1), SideWork.UNKNOWN);
        CHECKS.due("RUNS", b.work.count(2), 400);
        b.work.clear();
        b.whole(1);
        CHECKS.due("clear() counts on", b.work.run(0, 1), SideWork.ROOM);
    }
}
