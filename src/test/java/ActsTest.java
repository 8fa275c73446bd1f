import java.util.function.ToIntFunction;

/** The codes, and promises 1, 2, 3, 12 and 13: a new object, act, told, count, clear. */
public final class ActsTest {
    private static final int UNKNOWN = SideWork.UNKNOWN, OUTSIDE = SideWork.OUTSIDE, ROOM = SideWork.ROOM;
    private static final int MIN = Integer.MIN_VALUE, MAX = Integer.MAX_VALUE;
    private static final Checks CHECKS = new Checks("ActsTest");

    /** For each KIND what a, b, c are: x an ACT, s a SLOT, b a BOX, f a FAILURE, n a number of 25, - free. */
    private static final String[] SHAPES = {"---", "s--", "---", "xx-", "xsx", "xx-", "xx-", "xx-", "xx-", "xx-",
        "x--", "x--", "x--", "x--", "x--", "xx-", "xxx", "x--", "xx-", "xxx", "x--", "xfx", "xx-", "xxx", "xx-",
        "nx-", "x--", "x--", "x--", "x--", "b--", "bx-"};

    public static void main(String[] args) {
        newObject();
        unknownIsFirst();
        outsideIsNext();
        roomIsLast();
        refusedCallsChangeNothing();
        refusedForRoomChangesNothing();
        sixtyAtMost();
        lesserNumbers();
        kindsOutside();
        numbersOutside("Promise 2: OUTSIDE: a SLOT", 's', 7);
        numbersOutside("Promise 2: OUTSIDE: BOX", 'b', 7);
        numbersOutside("Promise 2: OUTSIDE: kind of FAILURE (0 to 8)", 'f', 8);
        numbersOutside("Promise 2: OUTSIDE: the number of 25 (0 to 59)", 'n', 59);
        unknownActs();
        whatAKindDoesNotHave();
        whereAnotherIsTold();
        told();
        toldRefused();
        count();
        countRefused();
        clear();
        clearOfNothing();
        clearGivesRoom();
        clearCountsRuns();
        CHECKS.finish();
    }

    private static void newObject() {
        CHECKS.sentence("Promise 1: No ACTS; nothing ran.");
        nothingYet("new", new SideWork(), 0);
    }

    private static void nothingYet(String name, SideWork work, int runs) {
        CHECKS.dueEnd(name, work, 0, 0, -1, 0, 0);
        CHECKS.due(name + " gave()", work.gave(), 0);
        for (int i : new int[] {MIN, -1, 0, 1, MAX}) {
            CHECKS.duePlace(name, work, i, "0");
        }
        for (int b = 0; b < 8; b++) {
            CHECKS.due(name + " box(" + b + ")", work.box(b), Builder.NOTHING);
            CHECKS.due(name + " boxed(" + b + ")", work.boxed(b), 0);
            CHECKS.due(name + " same(" + b + ", 0)", work.same(b, 0), 1);
        }
        CHECKS.due(name + " out(0)", work.out(0), OUTSIDE);
        CHECKS.due(name + " count(0)", work.count(0), 0);
        CHECKS.due(name + " count(1)", work.count(1), 0);
        CHECKS.due(name + " count(2)", work.count(2), runs);
        CHECKS.due(name + " told(0, 0)", work.told(0, 0), UNKNOWN);
        CHECKS.due(name + " run(0, 1)", work.run(0, 1), UNKNOWN);
        CHECKS.due(name + " act(3, 0, 0, 0)", work.act(3, 0, 0, 0), UNKNOWN);
    }

    private static SideWork withOneAct() {
        SideWork work = new SideWork();
        work.act(0, 5, 0, 0);
        return work;
    }

    private static SideWork withSixtyActs() {
        SideWork work = new SideWork();
        for (int i = 0; i < 60; i++) {
            work.act(0, i, 0, 0);
        }
        return work;
    }

    /** 400 times the WHOLE 5 was run, and the last time told and boxed. */
    private static SideWork withAllRuns() {
        SideWork work = withOneAct();
        work.act(26, 0, 0, 0);
        work.act(31, 3, 1, 0);
        for (int i = 0; i < 400; i++) {
            work.run(2, 3);
        }
        return work;
    }

    private static void unknownIsFirst() {
        CHECKS.sentence("Codes, the first of these that fits: UNKNOWN -101 (an ACT that there is not)");
        SideWork one = withOneAct();
        CHECKS.due("SLOT and x wrong", one.act(4, 1, 8, 0), UNKNOWN);
        CHECKS.due("SLOT and z wrong", one.act(4, 0, 8, 1), UNKNOWN);
        CHECKS.due("FAILURE and x wrong", one.act(21, 1, 9, 0), UNKNOWN);
        CHECKS.due("FAILURE and z wrong", one.act(21, 0, 9, 1), UNKNOWN);
        CHECKS.due("number of 25 and x wrong", one.act(25, 60, 1, 0), UNKNOWN);
        CHECKS.due("BOX and x wrong", one.act(31, 8, 1, 0), UNKNOWN);
        CHECKS.due("told, both wrong", one.told(1, 4), UNKNOWN);
        CHECKS.due("run, both wrong", one.run(1, 0), UNKNOWN);
        CHECKS.due("run, both wrong, too many", one.run(-1, 201), UNKNOWN);
        SideWork full = withSixtyActs();
        CHECKS.due("a 61st with x wrong", full.act(13, 60, 0, 0), UNKNOWN);
        CHECKS.due("a 61st with BOX and x wrong", full.act(31, 8, 60, 0), UNKNOWN);
        SideWork ran = withAllRuns();
        CHECKS.due("a 401st of no ACT", ran.run(3, 3), UNKNOWN);
        CHECKS.due("a 401st of no ACT with no STEPS", ran.run(3, 0), UNKNOWN);
    }

    private static void outsideIsNext() {
        CHECKS.sentence("OUTSIDE -102 (another number out of its bounds)");
        SideWork one = withOneAct();
        CHECKS.due("a KIND that is none has no x that could be unknown", one.act(32, 9, 9, 9), OUTSIDE);
        SideWork full = withSixtyActs();
        CHECKS.due("a 61st of a wrong KIND", full.act(32, 0, 0, 0), OUTSIDE);
        CHECKS.due("a 61st with a wrong SLOT", full.act(1, 8, 0, 0), OUTSIDE);
        CHECKS.due("a 61st with a wrong FAILURE", full.act(21, 0, 9, 0), OUTSIDE);
        CHECKS.due("a 61st with a wrong number of 25", full.act(25, 60, 0, 0), OUTSIDE);
        CHECKS.due("a 61st with a wrong BOX", full.act(30, -1, 0, 0), OUTSIDE);
        SideWork ran = withAllRuns();
        CHECKS.due("a 401st with no STEPS", ran.run(0, 0), OUTSIDE);
        CHECKS.due("a 401st with too many STEPS", ran.run(0, 201), OUTSIDE);
    }

    private static void roomIsLast() {
        CHECKS.sentence("ROOM -104");
        SideWork full = withSixtyActs();
        for (int kind = 0; kind < SHAPES.length; kind++) {
            CHECKS.due("a 61st of KIND " + kind, full.act(kind, 0, 0, 0), ROOM);
        }
        CHECKS.due("a 401st", withAllRuns().run(0, 1), ROOM);
    }

    /** A RUN that told, boxed and gave something. */
    private static SideWork ran() {
        Builder b = new Builder();
        int two = b.whole(2);
        int all = b.all(b.toBox(3, b.tell(two)), b.toBox(5, b.row(two)), b.fromBox(5));
        CHECKS.due("it gives a ROW", b.work.run(all, 50), Builder.ROW);
        return b.work;
    }

    private static SideWork failed() {
        Builder b = new Builder();
        int two = b.whole(2);
        CHECKS.due("it FAILS", b.work.run(b.then(b.toBox(3, b.tell(two)), b.fail(two)), 50), -17);
        return b.work;
    }

    private static void refusedCallsChangeNothing() {
        CHECKS.sentence("then nothing changes");
        refusedOnBoth("KIND -1", OUTSIDE, w -> w.act(-1, 0, 0, 0));
        refusedOnBoth("KIND 32", OUTSIDE, w -> w.act(32, 0, 0, 0));
        refusedOnBoth("SLOT 8", OUTSIDE, w -> w.act(1, 8, 0, 0));
        refusedOnBoth("BOX 8", OUTSIDE, w -> w.act(30, 8, 0, 0));
        refusedOnBoth("FAILURE 9", OUTSIDE, w -> w.act(21, 0, 9, 0));
        refusedOnBoth("number 60", OUTSIDE, w -> w.act(25, 60, 0, 0));
        refusedOnBoth("no x", UNKNOWN, w -> w.act(3, 59, 0, 0));
        refusedOnBoth("no y", UNKNOWN, w -> w.act(3, 0, 59, 0));
        refusedOnBoth("no z", UNKNOWN, w -> w.act(16, 0, 0, 59));
        refusedOnBoth("told of no ACT", UNKNOWN, w -> w.told(59, 0));
        refusedOnBoth("told(0, 4)", OUTSIDE, w -> w.told(0, 4));
        refusedOnBoth("run of no ACT", UNKNOWN, w -> w.run(59, 50));
        refusedOnBoth("no STEPS", OUTSIDE, w -> w.run(0, 0));
        refusedOnBoth("201 STEPS", OUTSIDE, w -> w.run(0, 201));
        refusedOnBoth("ended(5)", OUTSIDE, w -> w.ended(5));
        refusedOnBoth("box(8)", OUTSIDE, w -> w.box(8));
        refusedOnBoth("boxed(8)", 0, w -> w.boxed(8));
        refusedOnBoth("same(8, 0)", OUTSIDE, w -> w.same(8, 0));
        refusedOnBoth("out(1)", OUTSIDE, w -> w.out(1));
        refusedOnBoth("count(3)", OUTSIDE, w -> w.count(3));
        SideWork touched = ran();
        CHECKS.duePlace("no such place", touched, 2, "throws");
        CHECKS.due("what it shows then", Shown.of(touched), Shown.of(ran()));
    }

    private static void refusedOnBoth(String what, int code, ToIntFunction<SideWork> call) {
        refused(what, code, call, ran(), ran());
        refused(what + " behind a FAILURE", code, call, failed(), failed());
    }

    private static void refused(String what, int code, ToIntFunction<SideWork> call, SideWork touched, SideWork twin) {
        CHECKS.due(what, call.applyAsInt(touched), code);
        CHECKS.due(what + ": what it shows then", Shown.of(touched), Shown.of(twin));
        CHECKS.due(what + ": the next ACT", touched.act(2, 0, 0, 0), twin.act(2, 0, 0, 0));
        CHECKS.due(what + ": the next RUN", touched.run(1, 50), twin.run(1, 50));
        CHECKS.due(what + ": RUNS", touched.count(2), 2);
    }

    private static void refusedForRoomChangesNothing() {
        CHECKS.sentence("ROOM -104; then nothing changes");
        SideWork full = withSixtyActs();
        full.run(7, 1);
        full.act(2, 0, 0, 0);
        SideWork twin = withSixtyActs();
        twin.run(7, 1);
        CHECKS.due("a 61st ACT: what it shows then", Shown.of(full), Shown.of(twin));
        SideWork ran = withAllRuns();
        ran.run(0, 1);
        CHECKS.due("a 401st RUN: what it shows then", Shown.of(ran), Shown.of(withAllRuns()));
    }

    private static void sixtyAtMost() {
        CHECKS.sentence("ACTS 0, 1, .. (60 at most)");
        SideWork work = new SideWork();
        for (int i = 0; i < 60; i++) {
            CHECKS.due("ACT", work.act(0, i, 0, 0), i);
        }
        CHECKS.due("a 61st", work.act(0, 60, 0, 0), ROOM);
        CHECKS.due("ACTS", work.count(0), 60);
        CHECKS.due("the last one", work.told(59, 1), 59);
        CHECKS.due("it RUNS", work.run(59, 1), Builder.WHOLE);
        CHECKS.due("it gave", work.gave(), 59);
        CHECKS.due("no 61st is told", work.told(60, 0), UNKNOWN);
        CHECKS.due("no 61st RUNS", work.run(60, 1), UNKNOWN);
    }

    private static void lesserNumbers() {
        CHECKS.sentence("x, y, z are ACTS (of lesser numbers)");
        for (int kind = 0; kind < SHAPES.length; kind++) {
            for (int i = 0; i < 3; i++) {
                if (SHAPES[kind].charAt(i) == 'x') {
                    tryNumber(kind, i, 0, 1);
                    tryNumber(kind, i, 1, UNKNOWN);
                }
            }
        }
        SideWork work = new SideWork();
        CHECKS.due("the first ACT has none ahead of it", work.act(13, 0, 0, 0), UNKNOWN);
    }

    /** One ACT is there, the WHOLE 5; one of a, b, c of the next is the number. */
    private static void tryNumber(int kind, int i, int number, int due) {
        SideWork work = withOneAct();
        int[] given = {0, 0, 0};
        given[i] = number;
        CHECKS.due("KIND " + kind + ", " + "abc".charAt(i) + " = " + number,
                work.act(kind, given[0], given[1], given[2]), due);
        CHECKS.due("then ACTS", work.count(0), due == 1 ? 2 : 1);
    }

    private static void kindsOutside() {
        CHECKS.sentence("Promise 2: OUTSIDE: the KIND");
        SideWork work = withOneAct();
        for (int kind : new int[] {MIN, -1, 32, 33, 64, MAX}) {
            CHECKS.due("act(" + kind + ", 0, 0, 0)", work.act(kind, 0, 0, 0), OUTSIDE);
        }
        for (int kind = 0; kind < 32; kind++) {
            CHECKS.due("act(" + kind + ", 0, 0, 0)", work.act(kind, 0, 0, 0), kind + 1);
        }
    }

    private static void numbersOutside(String words, char shape, int most) {
        CHECKS.sentence(words);
        int places = 0;
        for (int kind = 0; kind < SHAPES.length; kind++) {
            int i = SHAPES[kind].indexOf(shape);
            if (i >= 0) {
                places++;
                for (int number = 0; number <= most; number++) {
                    tryNumber(kind, i, number, 1);
                }
                for (int number : new int[] {MIN, -1, most + 1, MAX}) {
                    tryNumber(kind, i, number, OUTSIDE);
                }
            }
        }
        CHECKS.due("KINDS that have it", places, shape == 's' || shape == 'b' ? 2 : 1);
    }

    private static void unknownActs() {
        CHECKS.sentence("Promise 2: UNKNOWN: an x, y, z that there is not");
        for (int kind = 0; kind < SHAPES.length; kind++) {
            for (int i = 0; i < 3; i++) {
                if (SHAPES[kind].charAt(i) == 'x') {
                    for (int number : new int[] {MIN, -1, 59, 60, MAX}) {
                        tryNumber(kind, i, number, UNKNOWN);
                    }
                }
            }
        }
        SideWork cleared = withOneAct();
        cleared.clear();
        CHECKS.due("one that there was", cleared.act(13, 0, 0, 0), UNKNOWN);
    }

    private static void whatAKindDoesNotHave() {
        CHECKS.sentence("Promise 2: What a KIND does not have may be any number.");
        for (int kind = 0; kind < SHAPES.length; kind++) {
            for (int free : new int[] {MIN, -1, 60, 1000, MAX}) {
                SideWork work = withOneAct();
                int[] given = new int[3];
                for (int i = 0; i < 3; i++) {
                    given[i] = SHAPES[kind].charAt(i) == '-' ? free : 0;
                }
                CHECKS.due("KIND " + kind + " with " + free, work.act(kind, given[0], given[1], given[2]), 1);
                CHECKS.due("its KIND", work.told(1, 0), kind);
                for (int i = 0; i < 3; i++) {
                    CHECKS.due("its " + "abc".charAt(i), work.told(1, i + 1), given[i]);
                }
                CHECKS.due("it RUNS", work.run(1, 200) > ROOM ? 1 : 0, 1);
            }
        }
    }

    /** What is no x, y, z there may have the number of an ACT that there is not. */
    private static void whereAnotherIsTold() {
        CHECKS.sentence("Promise 2: (x, y, z are a, b, c, but where another is told.)");
        SideWork work = withOneAct();
        CHECKS.due("4: b is a SLOT", work.act(4, 0, 7, 0), 1);
        CHECKS.due("21: b is a kind of FAILURE", work.act(21, 0, 8, 0), 2);
        CHECKS.due("25: a is a number", work.act(25, 59, 0, 0), 3);
        CHECKS.due("31: a is a BOX", work.act(31, 7, 0, 0), 4);
        CHECKS.due("4: z is c", work.act(4, 0, 7, 5), UNKNOWN);
        CHECKS.due("21: z is c", work.act(21, 0, 8, 5), UNKNOWN);
        CHECKS.due("25: x is b", work.act(25, 59, 5, 0), UNKNOWN);
        CHECKS.due("31: x is b", work.act(31, 7, 5, 0), UNKNOWN);
    }

    private static void told() {
        CHECKS.sentence("Promise 3: KIND, a, b, c of an ACT (what = 0 to 3; as they were given).");
        SideWork work = new SideWork();
        int[][] all = {{0, MIN, MAX, -1}, {1, 7, 0, 0}, {3, 1, 0, MIN}, {21, 2, 8, 1}, {25, 59, 3, -60}, {31, 7, 4, 60}};
        for (int[] given : all) {
            work.act(given[0], given[1], given[2], given[3]);
        }
        work.run(5, 200);
        for (int act = 0; act < all.length; act++) {
            for (int what = 0; what < 4; what++) {
                CHECKS.due("told(" + act + ", " + what + ")", work.told(act, what), all[act][what]);
            }
        }
    }

    private static void toldRefused() {
        CHECKS.sentence("Promise 3: UNKNOWN; OUTSIDE.");
        SideWork work = withOneAct();
        for (int wrong : new int[] {MIN, -1, 1, 60, MAX}) {
            CHECKS.due("told(" + wrong + ", 0)", work.told(wrong, 0), UNKNOWN);
            CHECKS.due("told(" + wrong + ", 4)", work.told(wrong, 4), UNKNOWN);
        }
        for (int wrong : new int[] {MIN, -1, 4, MAX}) {
            CHECKS.due("told(0, " + wrong + ")", work.told(0, wrong), OUTSIDE);
        }
    }

    private static void count() {
        CHECKS.sentence("Promise 12: ACTS (what = 0), how many are told (1), RUNS (2).");
        Builder b = new Builder();
        int tell = b.tell(b.whole(7));
        CHECKS.due("ACTS", b.work.count(0), 2);
        CHECKS.due("told", b.work.count(1), 0);
        CHECKS.due("RUNS", b.work.count(2), 0);
        b.work.run(b.all(tell, tell, tell), 50);
        CHECKS.due("ACTS", b.work.count(0), 4);
        CHECKS.due("told", b.work.count(1), 3);
        CHECKS.due("RUNS", b.work.count(2), 1);
        b.work.run(b.fail(tell), 50);
        CHECKS.due("told of the latest RUN", b.work.count(1), 1);
        CHECKS.due("a RUN that FAILS is one, too", b.work.count(2), 2);
    }

    private static void countRefused() {
        CHECKS.sentence("Promise 12: OUTSIDE.");
        for (int wrong : new int[] {MIN, -1, 3, MAX}) {
            CHECKS.due("count(" + wrong + ")", ran().count(wrong), OUTSIDE);
        }
    }

    private static void clear() {
        CHECKS.sentence("Promise 13: All is as at the beginning, but how many RUNS there were: how many ACTS there were.");
        SideWork ran = ran();
        int acts = ran.count(0);
        CHECKS.due("clear()", ran.clear(), acts);
        nothingYet("cleared", ran, 1);
        SideWork failed = failed();
        acts = failed.count(0);
        CHECKS.due("clear() behind a FAILURE", failed.clear(), acts);
        nothingYet("cleared behind a FAILURE", failed, 1);
        failed.act(1, 0, 0, 0);
        failed.act(30, 3, 0, 0);
        CHECKS.due("SLOTS", failed.run(0, 1), Builder.NOTHING);
        CHECKS.due("BOXES", failed.run(1, 1), Builder.NOTHING);
    }

    private static void clearOfNothing() {
        CHECKS.sentence("Promise 13: how many ACTS there were (here none)");
        SideWork work = new SideWork();
        CHECKS.due("clear()", work.clear(), 0);
        CHECKS.due("clear() again", work.clear(), 0);
        nothingYet("cleared", work, 0);
    }

    private static void clearGivesRoom() {
        CHECKS.sentence("Promise 13: how many ACTS there were (here 60)");
        SideWork work = withSixtyActs();
        CHECKS.due("clear()", work.clear(), 60);
        CHECKS.due("ACT 59 is no more", work.told(59, 0), UNKNOWN);
        work.act(0, 1, 0, 0);
        CHECKS.due("25 of one that was", work.act(25, 59, 0, 0), 1);
        CHECKS.due("it gives NOTHING", work.run(1, 9), Builder.NOTHING);
        for (int i = 2; i < 60; i++) {
            CHECKS.due("ACT", work.act(2, 0, 0, 0), i);
        }
        CHECKS.due("a 61st", work.act(2, 0, 0, 0), ROOM);
        CHECKS.due("clear() again", work.clear(), 60);
    }

    private static void clearCountsRuns() {
        CHECKS.sentence("Promise 13: but how many RUNS there were");
        SideWork work = withAllRuns();
        CHECKS.due("clear()", work.clear(), 3);
        CHECKS.due("RUNS", work.count(2), 400);
    }
}
