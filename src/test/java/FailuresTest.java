/** Promise 5 with the KINDS 20 to 22: FAILURES, caught, and passed on through what is always done. */
public final class FailuresTest {
    private static final Checks CHECKS = new Checks("FailuresTest");

    public static void main(String[] args) {
        own();
        catching();
        always();
        partsFromTheLeft();
        wrongInputs();
        CHECKS.finish();
    }

    private static void ended(String what, SideWork work, int failure, int code, int at, int steps, int failures) {
        int[] due = {failure, code, at, steps, failures};
        for (int i = 0; i < 5; i++) {
            CHECKS.due(what + ": ended(" + i + ")", work.ended(i), due[i]);
        }
    }

    private static void own() {
        for (int code : new int[] {0, 5, -3, Integer.MIN_VALUE}) {
            Builder b = new Builder();
            int fail = b.fail(b.whole(code));
            CHECKS.due("run", b.work.run(b.then(fail, fail), 9), -17);
            ended("OWN " + code, b.work, Builder.OWN, code, fail, 3, 1);
            CHECKS.due("gave", b.work.gave(), 0);
        }
    }

    private static void catching() {
        Builder b = new Builder();
        int code = b.slot(7);
        int zero = b.whole(0);
        int none = b.nothing();
        int five = b.whole(5);
        int row = b.row(five);
        int ring = b.keep(b.later(b.force(b.slot(0))), 0, b.force(b.slot(0)));
        int[] failing = {0, b.held(none), b.read(row, five), b.row(b.whole(-1)), b.held(zero),
            b.copy(zero, row, zero), b.divided(five, zero), b.fail(b.whole(99)), ring};
        for (int kind = 1; kind <= 8; kind++) {
            int due = kind == Builder.OWN ? 99 : kind;
            CHECKS.due("kind " + kind + " by any", b.wholeOf(b.caught(failing[kind], 0, code)), due);
            CHECKS.due("kind " + kind + " by itself", b.wholeOf(b.caught(failing[kind], kind, code)), due);
            ended("caught", b.work, 0, 0, -1, b.work.ended(3), 1);
            CHECKS.due("by another", b.failureOf(b.caught(failing[kind], kind % 8 + 1, code)), kind);
            CHECKS.due("its code", b.work.ended(1), due);
        }
        CHECKS.due("x does not FAIL", b.wholeOf(b.caught(five, 0, zero)), 5);

        Builder c = new Builder();
        int fail = c.fail(c.whole(4));
        int other = c.divided(c.whole(1), c.whole(0));
        int inZ = c.caught(fail, 0, other);
        CHECKS.due("z FAILS", c.failureOf(inZ), Builder.ARITHMETIC);
        ended("z FAILS", c.work, 6, 6, other, 6, 2);
        CHECKS.due("outside it is caught", c.wholeOf(c.caught(inZ, 6, c.slot(7))), 6);
        CHECKS.due("z of the outer one is not caught by the inner one",
                c.failureOf(c.caught(c.caught(fail, 3, c.slot(7)), 0, fail)), Builder.OWN);
        CHECKS.due("SLOT 7 is left where nothing FAILS",
                c.work.run(c.then(c.caught(c.whole(1), 0, c.slot(7)), c.slot(7)), 20), Builder.NOTHING);
    }

    private static void always() {
        Builder b = new Builder();
        int one = b.whole(1);
        int two = b.whole(2);
        int fail = b.fail(b.whole(7));
        int tell = b.tell(two);
        CHECKS.due("the VALUE of x", b.wholeOf(b.always(one, tell)), 1);
        CHECKS.due("y is done", b.work.out(0), 2);
        CHECKS.due("x FAILS", b.failureOf(b.always(fail, tell)), Builder.OWN);
        ended("x FAILS", b.work, 7, 7, fail, 5, 1);
        CHECKS.due("y is done all the same", b.work.count(1), 1);
        int other = b.divided(one, b.whole(0));
        CHECKS.due("both FAIL", b.failureOf(b.always(fail, other)), Builder.ARITHMETIC);
        ended("both FAIL", b.work, 6, 6, other, 6, 2);
        CHECKS.due("y FAILS", b.failureOf(b.always(one, fail)), Builder.OWN);
        int quiet = b.caught(other, 0, b.slot(7));
        CHECKS.due("x FAILS, y catches its own", b.failureOf(b.always(fail, quiet)), Builder.OWN);
        ended("x's goes on", b.work, 7, 7, fail, 8, 2);
        int nested = b.always(b.always(fail, tell), tell);
        CHECKS.due("nested", b.failureOf(nested), Builder.OWN);
        CHECKS.due("nested: told", b.work.count(1), 2);
        CHECKS.due("caught behind it", b.wholeOf(b.caught(nested, 7, b.slot(7))), 7);
    }

    private static void partsFromTheLeft() {
        Builder b = new Builder();
        int one = b.tell(b.whole(1));
        int two = b.tell(b.whole(2));
        int three = b.tell(b.whole(3));
        int[] all = {b.plus(one, two), b.times(one, two), b.divided(one, two), b.below(one, two), b.alike(one, two),
            b.read(one, two), b.hold(one, two), b.write(one, two, three), b.copy(one, two, three)};
        for (int act : all) {
            b.work.run(act, 50);
            CHECKS.due("first", b.work.out(0), 1);
            CHECKS.due("second", b.work.out(1), 2);
            CHECKS.due("how many", b.work.count(1), b.work.told(act, 0) == 16 || b.work.told(act, 0) == 19 ? 3 : 2);
        }
        int fail = b.fail(b.whole(0));
        CHECKS.due("a FAILURE of x", b.failureOf(b.plus(fail, one)), Builder.OWN);
        CHECKS.due("y is not done", b.work.count(1), 0);
        CHECKS.due("a FAILURE of y ahead of x's CAST", b.failureOf(b.plus(b.nothing(), fail)), Builder.OWN);
    }

    private static void wrongInputs() {
        SideWork work = new SideWork();
        for (int wrong : new int[] {-1, 5, Integer.MIN_VALUE, Integer.MAX_VALUE}) {
            CHECKS.due("ended(" + wrong + ")", work.ended(wrong), SideWork.OUTSIDE);
        }
    }
}
