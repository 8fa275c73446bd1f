/** Promises 4 to 11: run, and what is shown of it; and how long an object is used. */
public final class CallsTest {
    private static final int UNKNOWN = SideWork.UNKNOWN, OUTSIDE = SideWork.OUTSIDE, ROOM = SideWork.ROOM;
    private static final int MIN = Integer.MIN_VALUE, MAX = Integer.MAX_VALUE;
    private static final Checks CHECKS = new Checks("CallsTest");

    public static void main(String[] args) {
        newFrame();
        oneTo200();
        boxesAndOutThen();
        sorts();
        failuresAndEnds();
        runRefused();
        fourHundredRuns();
        clearCountsOn();
        endedByFailure();
        endedByCode();
        endedAt();
        endedSteps();
        endedFailures();
        endedRefused();
        gave();
        gaveNone();
        places();
        placesOfLinks();
        noSuchThing();
        noSuchPlace();
        box();
        boxRefused();
        boxed();
        boxedRefused();
        same();
        sameRefused();
        out();
        outRefused();
        fiveHundredTwelveCalls();
        CHECKS.finish();
    }

    private static void newFrame() {
        CHECKS.sentence("Promise 4: An ACT RUNS in a new FRAME");
        Builder b = new Builder();
        int slot = b.slot(3);
        CHECKS.due("kept", b.wholeOf(b.keep(b.whole(5), 3, slot)), 5);
        CHECKS.due("in the next RUN", b.work.run(slot, 1), Builder.NOTHING);
        b.work.run(b.keep(b.whole(5), 3, b.fail(slot)), 9);
        CHECKS.due("behind a FAILURE", b.work.run(slot, 1), Builder.NOTHING);
    }

    private static void oneTo200() {
        CHECKS.sentence("Promise 4: with so many STEPS (1 to 200)");
        Builder b = new Builder();
        int one = b.whole(1);
        int endless = b.loop(one, one);
        for (int steps : new int[] {1, 2, 199, 200}) {
            CHECKS.due("run(0, " + steps + ")", b.work.run(one, steps), Builder.WHOLE);
            CHECKS.due("an endless one", b.work.run(endless, steps), -19);
            CHECKS.due("STEPS", b.work.ended(3), steps);
        }
        for (int steps : new int[] {MIN, -1, 0, 201, MAX}) {
            CHECKS.due("run(0, " + steps + ")", b.work.run(one, steps), OUTSIDE);
        }
    }

    private static void boxesAndOutThen() {
        CHECKS.sentence("Promise 4: BOXES hold NOTHING, OUT is empty then");
        Builder b = new Builder();
        int fill = b.tell(b.whole(4));
        for (int box = 0; box < 8; box++) {
            fill = b.toBox(box, fill);
        }
        CHECKS.due("run", b.wholeOf(fill), 4);
        CHECKS.due("count(1)", b.work.count(1), 1);
        CHECKS.due("box(7)", b.work.box(7), Builder.WHOLE);
        b.work.run(b.nothing(), 1);
        CHECKS.due("count(1)", b.work.count(1), 0);
        CHECKS.due("out(0)", b.work.out(0), OUTSIDE);
        for (int box = 0; box < 8; box++) {
            CHECKS.due("box(" + box + ")", b.work.box(box), Builder.NOTHING);
            CHECKS.due("boxed(" + box + ")", b.work.boxed(box), 0);
        }
        b.work.run(fill, 50);
        CHECKS.due("30 finds NOTHING", b.work.run(b.fromBox(7), 1), Builder.NOTHING);
    }

    private static void sorts() {
        CHECKS.sentence("Promise 4: the sort of its VALUE: 0 a WHOLE, 1 NOTHING, 2 a ROW, 3 LINKS, 4 a MARKED ROW, "
                + "5 a LINK, 6 a MARKED LINK, 7 a LATER");
        Builder b = new Builder();
        int[] things = b.oneOfEachSort(b.whole(3));
        for (int sort = 0; sort < 8; sort++) {
            CHECKS.due("run", b.work.run(things[sort], 20), sort);
            CHECKS.due("ended(0)", b.work.ended(0), 0);
        }
    }

    private static void failuresAndEnds() {
        CHECKS.sentence("Promise 4: -10 less the FAILURE that nothing caught, or less 9 to 12");
        Builder b = new Builder();
        int[] failing = b.oneOfEachFailure(99);
        for (int kind = 1; kind <= 8; kind++) {
            CHECKS.due("FAILURE " + kind, b.work.run(failing[kind], 200), -10 - kind);
        }
        for (int by = Builder.SPENT; by <= Builder.LONG; by++) {
            CHECKS.due("ended by " + by, b.work.run(b.endsBy(by), 200), -10 - by);
        }
    }

    private static void runRefused() {
        CHECKS.sentence("Promise 4: UNKNOWN; OUTSIDE");
        Builder b = new Builder();
        CHECKS.due("no ACTS", b.work.run(0, 1), UNKNOWN);
        b.whole(1);
        for (int act : new int[] {MIN, -1, 1, 59, 60, MAX}) {
            CHECKS.due("run(" + act + ", 1)", b.work.run(act, 1), UNKNOWN);
        }
        for (int steps : new int[] {MIN, 0, 201, MAX}) {
            CHECKS.due("run(0, " + steps + ")", b.work.run(0, steps), OUTSIDE);
        }
        CHECKS.due("refused RUNS are none", b.work.count(2), 0);
    }

    /**
     * Makes and changes so much that a RUN after many others must find the room that the first had: a ROW if all
     * is as it must be, else NOTHING.
     */
    private static int dearAct(Builder b) {
        int sixteen = b.whole(16);
        int last = b.whole(15);
        int row = b.row(sixteen);
        int kept = b.slot(0);
        int four = b.whole(4);
        int write = b.write(kept, last, b.call(b.force(kept), b.later(four)));
        int copy = b.copy(row, kept, sixteen);
        int eight = b.all(copy, copy, copy, copy, copy, copy, copy, copy);
        int right = b.choose(b.alike(b.read(kept, last), four), kept, b.nothing());
        return b.keep(row, 0, b.all(eight, eight, write, right));
    }

    private static void fourHundredRuns() {
        CHECKS.sentence("Promise 4: ROOM: 400 RUNS were");
        Builder b = new Builder();
        int act = dearAct(b);
        int fail = b.fail(b.whole(2));
        for (int i = 1; i <= 400; i++) {
            boolean isDear = i % 50 != 0;
            CHECKS.due("RUN " + i, b.work.run(isDear ? act : fail, 200), isDear ? Builder.ROW : -17);
        }
        CHECKS.due("RUNS", b.work.count(2), 400);
        CHECKS.due("a 401st", b.work.run(act, 200), ROOM);
        CHECKS.due("a 402nd", b.work.run(fail, 1), ROOM);
        CHECKS.due("RUNS", b.work.count(2), 400);
        CHECKS.due("the 400th is shown", b.work.ended(1), 2);
    }

    private static void clearCountsOn() {
        CHECKS.sentence("Promise 4: (clear() counts on)");
        Builder b = new Builder();
        for (int i = 0; i < 400; i++) {
            if (i % 100 == 0) {
                b.work.clear();
                b.whole(i);
            }
            CHECKS.due("RUN", b.work.run(0, 1), Builder.WHOLE);
        }
        CHECKS.due("a 401st", b.work.run(0, 1), ROOM);
        b.work.clear();
        b.whole(7);
        CHECKS.due("a 401st behind clear()", b.work.run(0, 1), ROOM);
        CHECKS.due("RUNS", b.work.count(2), 400);
    }

    private static void endedByFailure() {
        CHECKS.sentence("Promise 5: its FAILURE, or 9 to 12 (what = 0; 0: none)");
        Builder b = new Builder();
        CHECKS.due("nothing ran", b.work.ended(0), 0);
        int[] failing = b.oneOfEachFailure(99);
        for (int kind = 1; kind <= 8; kind++) {
            b.work.run(failing[kind], 200);
            CHECKS.due("FAILURE", b.work.ended(0), kind);
        }
        for (int by = Builder.SPENT; by <= Builder.LONG; by++) {
            b.work.run(b.endsBy(by), 200);
            CHECKS.due("ended", b.work.ended(0), by);
        }
        b.work.run(b.caught(failing[7], 0, failing[0]), 20);
        CHECKS.due("a FAILURE that was caught", b.work.ended(0), 0);
        b.work.run(failing[0], 20);
        CHECKS.due("none", b.work.ended(0), 0);
    }

    private static void endedByCode() {
        CHECKS.sentence("Promise 5: the code of that FAILURE (1; 0)");
        Builder b = new Builder();
        CHECKS.due("nothing ran", b.work.ended(1), 0);
        int[] failing = b.oneOfEachFailure(MIN);
        for (int kind = 1; kind <= 8; kind++) {
            b.work.run(failing[kind], 200);
            CHECKS.due("FAILURE " + kind, b.work.ended(1), kind == Builder.OWN ? MIN : kind);
        }
        for (int by = Builder.SPENT; by <= Builder.LONG; by++) {
            b.work.run(b.endsBy(by), 200);
            CHECKS.due("ended by " + by, b.work.ended(1), 0);
        }
        b.work.run(failing[6], 20);
        b.work.run(failing[0], 20);
        CHECKS.due("none", b.work.ended(1), 0);
    }

    private static void endedAt() {
        CHECKS.sentence("Promise 5: the ACT at which it arose, or that was to begin (2; -1)");
        Builder b = new Builder();
        CHECKS.due("nothing ran", b.work.ended(2), -1);
        int zero = b.whole(0);
        CHECKS.due("run", b.work.run(b.fail(zero), 1), -19);
        CHECKS.due("ACT 0 was to begin", b.work.ended(2), zero);
        int divided = b.divided(zero, zero);
        b.work.run(b.always(b.attempt(b.then(b.call(divided, zero), zero)), zero), 50);
        CHECKS.due("where it arose", b.work.ended(2), divided);
        int tooLong = b.row(b.whole(17));
        b.work.run(b.then(tooLong, zero), 50);
        CHECKS.due("LONG", b.work.ended(2), tooLong);
        b.work.run(zero, 1);
        CHECKS.due("none", b.work.ended(2), -1);
        b.work.run(b.caught(divided, 0, zero), 50);
        CHECKS.due("caught", b.work.ended(2), -1);
    }

    private static void endedSteps() {
        CHECKS.sentence("Promise 5: STEPS (3)");
        Builder b = new Builder();
        CHECKS.due("nothing ran", b.work.ended(3), 0);
        int one = b.whole(1);
        int two = b.plus(one, one);
        b.work.run(one, 200);
        CHECKS.due("one", b.work.ended(3), 1);
        b.work.run(b.plus(two, two), 200);
        CHECKS.due("an ACT that is done twice", b.work.ended(3), 7);
        b.work.run(b.fail(two), 200);
        CHECKS.due("with a FAILURE", b.work.ended(3), 4);
        b.work.run(b.loop(one, one), 200);
        CHECKS.due("all", b.work.ended(3), 200);
    }

    private static void endedFailures() {
        CHECKS.sentence("Promise 5: how many FAILURES arose (4)");
        Builder b = new Builder();
        CHECKS.due("nothing ran", b.work.ended(4), 0);
        int one = b.whole(1);
        int caught = b.caught(b.fail(one), 0, one);
        b.work.run(one, 9);
        CHECKS.due("none", b.work.ended(4), 0);
        b.work.run(caught, 9);
        CHECKS.due("one that was caught", b.work.ended(4), 1);
        b.work.run(b.then(caught, b.always(b.fail(one), caught)), 50);
        CHECKS.due("three, one not caught", b.work.ended(4), 3);
        b.work.run(b.then(caught, b.row(b.whole(17))), 50);
        CHECKS.due("LONG is none", b.work.ended(4), 1);
        b.work.run(caught, 3);
        CHECKS.due("SPENT is none", b.work.ended(4), 1);
    }

    private static void endedRefused() {
        CHECKS.sentence("Promise 5: OUTSIDE");
        Builder b = new Builder();
        for (int wrong : new int[] {MIN, -1, 5, MAX}) {
            CHECKS.due("ended(" + wrong + ")", b.work.ended(wrong), OUTSIDE);
        }
        b.work.run(b.whole(1), 1);
        for (int wrong : new int[] {MIN, -1, 5, MAX}) {
            CHECKS.due("ended(" + wrong + ")", b.work.ended(wrong), OUTSIDE);
        }
    }

    private static void gave() {
        CHECKS.sentence("Promise 6: its WHOLE, how many places it has; 0 of others");
        for (int n : new int[] {0, 1, 16}) {
            Builder b = new Builder();
            int[] things = b.oneOfEachSort(b.whole(n));
            for (int sort = 0; sort < 8; sort++) {
                b.work.run(things[sort], 20);
                CHECKS.due("sort " + sort + " of " + n, b.work.gave(), measure(sort, n));
            }
        }
        Builder b = new Builder();
        for (int n : new int[] {MIN, -1, MAX}) {
            b.work.run(b.whole(n), 1);
            CHECKS.due("a WHOLE", b.work.gave(), n);
        }
    }

    private static int measure(int sort, int n) {
        return sort == Builder.WHOLE || (sort >= Builder.ROW && sort <= Builder.MARKED_ROW) ? n : 0;
    }

    private static void gaveNone() {
        CHECKS.sentence("Promise 6: and where it has none");
        Builder b = new Builder();
        CHECKS.due("nothing ran", b.work.gave(), 0);
        int five = b.whole(5);
        for (int failing : new int[] {b.fail(five), b.row(b.whole(17)), b.loop(five, five)}) {
            b.work.run(five, 1);
            CHECKS.due("a VALUE", b.work.gave(), 5);
            b.work.run(b.then(b.row(five), failing), 200);
            CHECKS.due("none", b.work.gave(), 0);
        }
    }

    private static void places() {
        CHECKS.sentence("Promise 7: Place i of a ROW that it gave");
        Builder b = new Builder();
        int kept = b.slot(0);
        int fill = b.all(b.write(kept, b.whole(0), b.whole(MIN)), b.write(kept, b.whole(15), b.whole(MAX)), kept);
        CHECKS.due("run", b.work.run(b.keep(b.row(b.whole(16)), 0, fill), 50), Builder.ROW);
        CHECKS.duePlace("the first", b.work, 0, String.valueOf(MIN));
        CHECKS.duePlace("between", b.work, 1, "0");
        CHECKS.duePlace("the last", b.work, 15, String.valueOf(MAX));
        CHECKS.duePlace("the first again", b.work, 0, String.valueOf(MIN));
    }

    private static void placesOfLinks() {
        CHECKS.sentence("Promise 7: of LINKS, of a MARKED ROW 0 (NOTHING), 1 (a LINK), 2 (a MARKED LINK)");
        Builder b = new Builder();
        int kept = b.slot(0);
        int three = b.whole(3);
        int marked = b.write(kept, b.whole(1), b.markedLink(three));
        int link = b.write(kept, b.whole(2), b.link(three));
        b.work.run(b.keep(b.links(three), 0, b.all(marked, link, kept)), 50);
        CHECKS.duePlaces("LINKS", b.work, 0, 2, 1);
        b.work.run(b.keep(b.markedRow(three), 0, b.all(marked, kept)), 50);
        CHECKS.duePlaces("a MARKED ROW", b.work, 0, 2, 0);
    }

    private static void noSuchThing() {
        CHECKS.sentence("Promise 7: 0: it gave no such thing.");
        Builder b = new Builder();
        int[] things = b.oneOfEachSort(b.whole(3));
        int[] wrong = {MIN, -1, 0, 2, 3, 16, MAX};
        for (int i : wrong) {
            CHECKS.duePlace("nothing ran", b.work, i, "0");
        }
        for (int sort : new int[] {Builder.WHOLE, Builder.NOTHING, Builder.LINK, Builder.MARKED_LINK, Builder.LATER}) {
            b.work.run(things[2], 9);
            b.work.run(things[sort], 9);
            for (int i : wrong) {
                CHECKS.duePlace("sort " + sort, b.work, i, "0");
            }
        }
        for (int none : new int[] {b.then(things[2], b.fail(things[0])), b.then(things[2], b.row(b.whole(17)))}) {
            b.work.run(none, 50);
            for (int i : wrong) {
                CHECKS.duePlace("no VALUE", b.work, i, "0");
            }
        }
    }

    private static void noSuchPlace() {
        CHECKS.sentence("Promise 7: ArrayIndexOutOfBoundsException: it has no such place.");
        for (int length : new int[] {0, 1, 16}) {
            Builder b = new Builder();
            int n = b.whole(length);
            for (int row : new int[] {b.row(n), b.links(n), b.markedRow(n)}) {
                b.work.run(row, 9);
                for (int i : new int[] {MIN, -1, length, length + 1, MAX}) {
                    CHECKS.duePlace("of " + length, b.work, i, "throws");
                }
                if (length > 0) {
                    CHECKS.duePlace("of " + length, b.work, length - 1, "0");
                }
            }
        }
    }

    private static void box() {
        CHECKS.sentence("Promise 8: The sort of what a BOX holds now, as run().");
        Builder b = new Builder();
        int[] things = b.oneOfEachSort(b.whole(3));
        for (int sort = 0; sort < 8; sort++) {
            for (int i : new int[] {0, 7}) {
                b.work.run(b.toBox(i, things[sort]), 9);
                CHECKS.due("box(" + i + ")", b.work.box(i), sort);
            }
        }
        b.work.run(b.then(b.toBox(2, things[2]), b.fail(things[0])), 20);
        CHECKS.due("behind a FAILURE", b.work.box(2), Builder.ROW);
    }

    private static void boxRefused() {
        CHECKS.sentence("Promise 8: OUTSIDE.");
        for (int wrong : new int[] {MIN, -1, 8, 9, MAX}) {
            CHECKS.due("box(" + wrong + ")", new SideWork().box(wrong), OUTSIDE);
        }
    }

    private static void boxed() {
        CHECKS.sentence("Promise 9: Its WHOLE, how many places; 0 of others.");
        for (int n : new int[] {0, 1, 16}) {
            Builder b = new Builder();
            int[] things = b.oneOfEachSort(b.whole(n));
            for (int sort = 0; sort < 8; sort++) {
                b.work.run(b.toBox(7 - sort, things[sort]), 20);
                CHECKS.due("sort " + sort + " of " + n, b.work.boxed(7 - sort), measure(sort, n));
            }
        }
        Builder b = new Builder();
        for (int n : new int[] {MIN, -1, MAX, OUTSIDE}) {
            b.work.run(b.toBox(0, b.whole(n)), 2);
            CHECKS.due("a WHOLE", b.work.boxed(0), n);
        }
    }

    private static void boxedRefused() {
        CHECKS.sentence("Promise 9: OUTSIDE: 0, too.");
        for (int wrong : new int[] {MIN, -1, 8, 9, MAX}) {
            CHECKS.due("boxed(" + wrong + ")", new SideWork().boxed(wrong), 0);
        }
    }

    private static void same() {
        CHECKS.sentence("Promise 10: Whether two BOXES hold the same (as 9): 1, 0.");
        Builder b = new Builder();
        CHECKS.due("nothing ran", b.work.same(0, 7), 1);
        int[] things = b.oneOfEachSort(b.whole(0));
        for (int sort = 0; sort < 8; sort++) {
            int thing = things[sort];
            b.work.run(b.then(b.toBox(0, b.toBox(1, thing)), b.toBox(7, thing)), 50);
            CHECKS.due("one and the same", b.work.same(0, 1), 1);
            CHECKS.due("with itself", b.work.same(7, 7), 1);
            CHECKS.due("made anew", b.work.same(0, 7), sort <= Builder.NOTHING ? 1 : 0);
            CHECKS.due("and back", b.work.same(7, 0), sort <= Builder.NOTHING ? 1 : 0);
            CHECKS.due("with NOTHING", b.work.same(0, 2), sort == Builder.NOTHING ? 1 : 0);
        }
        Builder w = new Builder();
        w.work.run(w.then(w.toBox(0, w.whole(-1)), w.toBox(1, w.whole(MAX))), 50);
        CHECKS.due("WHOLES that are not alike", w.work.same(0, 1), 0);
    }

    private static void sameRefused() {
        CHECKS.sentence("Promise 10: OUTSIDE.");
        SideWork work = new SideWork();
        for (int wrong : new int[] {MIN, -1, 8, 9, MAX}) {
            CHECKS.due("same(" + wrong + ", 0)", work.same(wrong, 0), OUTSIDE);
            CHECKS.due("same(7, " + wrong + ")", work.same(7, wrong), OUTSIDE);
            CHECKS.due("same of one and the same wrong one", work.same(wrong, wrong), OUTSIDE);
        }
    }

    private static void out() {
        CHECKS.sentence("Promise 11: What is told i-th.");
        Builder b = new Builder();
        int three = b.all(b.tell(b.whole(MIN)), b.tell(b.whole(0)), b.tell(b.whole(MAX)));
        b.work.run(three, 50);
        CHECKS.due("out(0)", b.work.out(0), MIN);
        CHECKS.due("out(1)", b.work.out(1), 0);
        CHECKS.due("out(2)", b.work.out(2), MAX);
        b.work.run(b.fail(three), 50);
        CHECKS.due("behind a FAILURE", b.work.out(2), MAX);
    }

    private static void outRefused() {
        CHECKS.sentence("Promise 11: OUTSIDE: not so many (it may be told, too).");
        Builder b = new Builder();
        for (int wrong : new int[] {MIN, -1, 0, 39, 40, MAX}) {
            CHECKS.due("nothing ran: out(" + wrong + ")", b.work.out(wrong), OUTSIDE);
        }
        b.work.run(b.tell(b.whole(5)), 9);
        for (int wrong : new int[] {MIN, -1, 1, 39, 40, MAX}) {
            CHECKS.due("one: out(" + wrong + ")", b.work.out(wrong), OUTSIDE);
        }
        b.work.run(b.tell(b.whole(OUTSIDE)), 9);
        CHECKS.due("it is told", b.work.out(0), OUTSIDE);
        CHECKS.due("there is one", b.work.count(1), 1);
    }

    private static void fiveHundredTwelveCalls() {
        CHECKS.sentence("An object is used for at most 512 calls after it has been made");
        Builder b = new Builder();
        int act = dearAct(b);
        int[] failing = b.oneOfEachFailure(6);
        int made = b.work.count(0);
        int calls = made + 1;
        for (int i = 0; i < 400; i++, calls++) {
            CHECKS.due("run", b.work.run(i % 2 == 0 ? act : failing[7], 200), i % 2 == 0 ? Builder.ROW : -17);
        }
        for (; calls < 511; calls++) {
            CHECKS.due("told", b.work.told(act, 0), 4);
        }
        CHECKS.due("the 512th", b.work.clear(), made);
    }
}
