/** Promises 4, 6 and 7 with the KINDS 0 to 19, and which FAILURE comes first. */
public final class ValuesTest {
    private static final Checks CHECKS = new Checks("ValuesTest");
    private static final int MIN = Integer.MIN_VALUE, MAX = Integer.MAX_VALUE;

    public static void main(String[] args) {
        plain();
        arithmetic();
        wantedWholes();
        sameness();
        newRows();
        reading();
        writing();
        linksHold();
        copying();
        answersOfTheRun();
        CHECKS.finish();
    }

    private static void fails(String what, Builder b, int act, int failure) {
        CHECKS.due(what + " FAILS", b.failureOf(act), failure);
        CHECKS.due(what + " at", b.work.ended(2), failure == 0 ? -1 : act);
        CHECKS.due(what + " with the code", b.work.ended(1), failure >= Builder.SPENT ? 0 : failure);
    }

    private static void plain() {
        Builder b = new Builder();
        CHECKS.due("WHOLE", b.wholeOf(b.whole(MIN)), MIN);
        int five = b.whole(5);
        CHECKS.due("WHOLE 5", b.wholeOf(five), 5);
        CHECKS.due("NOTHING", b.work.run(b.nothing(), 1), Builder.NOTHING);
        CHECKS.due("it gave", b.work.gave(), 0);
        for (int i = 0; i < 8; i++) {
            CHECKS.due("SLOT " + i, b.work.run(b.slot(i), 1), Builder.NOTHING);
            CHECKS.due("SLOT kept", b.wholeOf(b.keep(five, i, b.slot(i))), 5);
        }
        CHECKS.due("then", b.wholeOf(b.then(five, b.whole(6))), 6);
        CHECKS.due("SLOTS are new in each RUN", b.work.run(b.slot(3), 1), Builder.NOTHING);
        CHECKS.due("another SLOT", b.work.run(b.keep(five, 1, b.slot(2)), 9), Builder.NOTHING);
    }

    private static void arithmetic() {
        int[][] pairs = {{7, 2}, {-7, 2}, {7, -2}, {-7, -2}, {MAX, 1}, {MIN, -1}, {MAX, MAX}, {0, 5}, {65536, 65536}};
        for (int[] pair : pairs) {
            Builder b = new Builder();
            int x = b.whole(pair[0]);
            int y = b.whole(pair[1]);
            String of = pair[0] + ", " + pair[1];
            CHECKS.due("5: " + of, b.wholeOf(b.plus(x, y)), pair[0] + pair[1]);
            CHECKS.due("6: " + of, b.wholeOf(b.times(x, y)), pair[0] * pair[1]);
            CHECKS.due("7: " + of, b.wholeOf(b.divided(x, y)), pair[0] / pair[1]);
            CHECKS.due("8: " + of, b.wholeOf(b.below(x, y)), pair[0] < pair[1] ? 1 : 0);
            CHECKS.due("8: back", b.wholeOf(b.below(y, x)), pair[1] < pair[0] ? 1 : 0);
            CHECKS.due("8: alike", b.wholeOf(b.below(x, x)), 0);
        }
        Builder b = new Builder();
        fails("by 0", b, b.divided(b.whole(3), b.whole(0)), Builder.ARITHMETIC);
        fails("0 by 0", b, b.divided(b.whole(0), b.whole(0)), Builder.ARITHMETIC);
    }

    private static void wantedWholes() {
        Builder b = new Builder();
        int zero = b.whole(0);
        int none = b.nothing();
        int thing = b.link(zero);
        fails("5 of NOTHING", b, b.plus(none, zero), Builder.NULL);
        fails("5 of a LINK", b, b.plus(zero, thing), Builder.CAST);
        fails("5 from the left: NULL", b, b.plus(none, thing), Builder.NULL);
        fails("5 from the left: CAST", b, b.plus(thing, none), Builder.CAST);
        fails("6", b, b.times(thing, none), Builder.CAST);
        fails("7 ahead of 0", b, b.divided(thing, zero), Builder.CAST);
        fails("7 by NOTHING", b, b.divided(zero, none), Builder.NULL);
        fails("8", b, b.below(zero, none), Builder.NULL);
        fails("10", b, b.row(none), Builder.NULL);
        fails("11", b, b.links(thing), Builder.CAST);
        fails("12", b, b.markedRow(none), Builder.NULL);
        fails("20", b, b.fail(none), Builder.NULL);
        fails("20 of a LINK", b, b.fail(thing), Builder.CAST);
        fails("23", b, b.choose(none, zero, zero), Builder.NULL);
        fails("23 of a LINK", b, b.choose(thing, zero, zero), Builder.CAST);
        fails("24", b, b.loop(none, zero), Builder.NULL);
        fails("24 of a LINK", b, b.loop(thing, zero), Builder.CAST);
        fails("26", b, b.tell(none), Builder.NULL);
        fails("26 of a LINK", b, b.tell(thing), Builder.CAST);
        int later = b.later(zero);
        fails("5 of a LATER", b, b.plus(later, zero), Builder.CAST);
        fails("5 of a ROW", b, b.plus(b.row(zero), zero), Builder.CAST);
    }

    private static void sameness() {
        Builder b = new Builder();
        int none = b.nothing();
        int zero = b.whole(0);
        CHECKS.due("NOTHING", b.wholeOf(b.alike(none, none)), 1);
        CHECKS.due("NOTHING and 0", b.wholeOf(b.alike(none, zero)), 0);
        CHECKS.due("WHOLES alike", b.wholeOf(b.alike(zero, b.whole(0))), 1);
        CHECKS.due("WHOLES", b.wholeOf(b.alike(zero, b.whole(1))), 0);
        int[] makers = {b.row(zero), b.links(zero), b.markedRow(zero), b.link(zero), b.markedLink(zero), b.later(zero)};
        int kept = b.slot(0);
        int same = b.alike(kept, kept);
        for (int maker : makers) {
            CHECKS.due("two new ones", b.wholeOf(b.alike(maker, maker)), 0);
            CHECKS.due("one and the same", b.wholeOf(b.keep(maker, 0, same)), 1);
        }
    }

    private static void newRows() {
        for (int length : new int[] {0, 1, 16}) {
            Builder b = new Builder();
            int n = b.whole(length);
            int[] rows = {b.row(n), b.links(n), b.markedRow(n)};
            for (int i = 0; i < 3; i++) {
                String what = "sort " + (2 + i) + " of " + length;
                CHECKS.due(what, b.work.run(rows[i], 2), 2 + i);
                CHECKS.due(what + " gave()", b.work.gave(), length);
                CHECKS.duePlace(what, b.work, -1, "throws");
                CHECKS.duePlace(what, b.work, MIN, "throws");
                CHECKS.duePlace(what, b.work, MAX, "throws");
                CHECKS.duePlace(what, b.work, length, "throws");
                for (int at = 0; at < length; at++) {
                    CHECKS.duePlace(what, b.work, at, "0");
                }
            }
        }
        for (int length : new int[] {-1, MIN, 17, MAX}) {
            Builder b = new Builder();
            int n = b.whole(length);
            int due = length < 0 ? Builder.SIZE : Builder.LONG;
            fails("10 of " + length, b, b.row(n), due);
            CHECKS.due("FAILURES", b.work.ended(4), length < 0 ? 1 : 0);
            CHECKS.due("gave()", b.work.gave(), 0);
            CHECKS.duePlace("none", b.work, 3, "0");
            fails("11 of " + length, b, b.links(n), due);
            fails("12 of " + length, b, b.markedRow(n), due);
        }
    }

    private static void reading() {
        Builder b = new Builder();
        int zero = b.whole(0);
        int two = b.whole(2);
        int none = b.nothing();
        int link = b.link(zero);
        int row = b.row(two);
        int links = b.links(two);
        CHECKS.due("a new place", b.wholeOf(b.read(row, b.whole(1))), 0);
        CHECKS.due("a new place of LINKS", b.work.run(b.read(links, zero), 9), Builder.NOTHING);
        fails("beyond", b, b.read(row, two), Builder.INDEX);
        fails("below", b, b.read(links, b.whole(-1)), Builder.INDEX);
        fails("far below", b, b.read(b.markedRow(two), b.whole(MIN)), Builder.INDEX);
        fails("far beyond", b, b.read(row, b.whole(MAX)), Builder.INDEX);
        fails("of NOTHING", b, b.read(none, two), Builder.NULL);
        fails("of a WHOLE", b, b.read(two, two), Builder.CAST);
        fails("of a LINK", b, b.read(link, two), Builder.CAST);
        fails("of a LATER", b, b.read(b.later(row), zero), Builder.CAST);
        fails("y ahead of x: NULL", b, b.read(two, none), Builder.NULL);
        fails("y ahead of x: CAST", b, b.read(none, link), Builder.CAST);
    }

    private static void writing() {
        Builder b = new Builder();
        int zero = b.whole(0);
        int one = b.whole(1);
        int two = b.whole(2);
        int none = b.nothing();
        int link = b.link(zero);
        int marked = b.markedLink(zero);
        int row = b.row(two);
        int links = b.links(two);
        int markedRow = b.markedRow(two);
        int kept = b.slot(0);

        CHECKS.due("16 gives z", b.wholeOf(b.write(row, one, b.whole(44))), 44);
        CHECKS.due("it is written", b.work.run(b.keep(row, 0, b.then(b.write(kept, one, b.whole(-9)), kept)), 20), 2);
        CHECKS.duePlace("written", b.work, 0, "0");
        CHECKS.duePlace("written", b.work, 1, "-9");
        int both = b.all(b.write(kept, zero, marked), b.write(kept, one, link), kept);
        CHECKS.due("LINKS", b.work.run(b.keep(links, 0, both), 20), 3);
        CHECKS.duePlace("LINKS", b.work, 0, "2");
        CHECKS.duePlace("LINKS", b.work, 1, "1");
        int emptied = b.all(b.write(kept, zero, marked), b.write(kept, one, marked), b.write(kept, zero, none), kept);
        CHECKS.due("MARKED ROW", b.work.run(b.keep(markedRow, 0, emptied), 50), 4);
        CHECKS.duePlace("MARKED ROW", b.work, 0, "0");
        CHECKS.duePlace("MARKED ROW", b.work, 1, "2");
        CHECKS.due("gives NOTHING", b.work.run(b.write(links, one, none), 20), Builder.NOTHING);
        CHECKS.due("gives a MARKED LINK", b.work.run(b.write(links, one, marked), 20), Builder.MARKED_LINK);

        Builder f = new Builder();
        zero = f.whole(0);
        two = f.whole(2);
        none = f.nothing();
        link = f.link(zero);
        marked = f.markedLink(zero);
        row = f.row(two);
        links = f.links(two);
        markedRow = f.markedRow(two);
        fails("y first", f, f.write(zero, none, link), Builder.NULL);
        fails("y first: CAST", f, f.write(none, link, none), Builder.CAST);
        fails("z no LINK", f, f.write(links, two, zero), Builder.CAST);
        fails("z a ROW", f, f.write(markedRow, two, row), Builder.CAST);
        fails("z no WHOLE: NOTHING", f, f.write(row, two, none), Builder.NULL);
        fails("z no WHOLE: a LINK", f, f.write(row, two, link), Builder.CAST);
        fails("z ahead of x: NULL", f, f.write(zero, two, none), Builder.NULL);
        fails("z ahead of x: CAST", f, f.write(none, two, link), Builder.CAST);
        fails("x a WHOLE", f, f.write(two, two, two), Builder.CAST);
        fails("x a LINK", f, f.write(link, two, two), Builder.CAST);
        fails("x NOTHING", f, f.write(none, two, two), Builder.NULL);
        fails("INDEX of a ROW", f, f.write(row, two, two), Builder.INDEX);
        fails("INDEX below", f, f.write(row, f.whole(-1), two), Builder.INDEX);
        fails("INDEX ahead of STORE", f, f.write(markedRow, two, link), Builder.INDEX);
        fails("STORE", f, f.write(markedRow, zero, link), Builder.STORE);
        fails("LINKS take it", f, f.write(links, zero, link), 0);
        fails("MARKED", f, f.write(markedRow, zero, marked), 0);
    }

    private static void linksHold() {
        Builder b = new Builder();
        int three = b.whole(3);
        int none = b.nothing();
        int kept = b.slot(0);
        int[] things = {three, none, b.row(three), b.links(three), b.markedRow(three), b.link(three),
            b.markedLink(three), b.later(three)};
        for (int sort = 0; sort < 8; sort++) {
            CHECKS.due("13 holds " + sort, b.work.run(b.held(b.link(things[sort])), 20), sort);
            CHECKS.due("18 gives " + sort, b.work.run(b.hold(b.markedLink(none), things[sort]), 20), sort);
        }
        CHECKS.due("13", b.work.run(things[5], 20), Builder.LINK);
        CHECKS.due("13 gave()", b.work.gave(), 0);
        CHECKS.duePlace("a LINK", b.work, 0, "0");
        CHECKS.due("14", b.work.run(things[6], 20), Builder.MARKED_LINK);
        CHECKS.due("18 holds", b.wholeOf(b.keep(things[6], 0, b.then(b.hold(kept, b.whole(8)), b.held(kept)))), 8);
        CHECKS.due("a LINK holds itself",
                b.wholeOf(b.keep(things[5], 0, b.then(b.hold(kept, kept), b.alike(kept, b.held(kept))))), 1);

        Builder f = new Builder();
        three = f.whole(3);
        none = f.nothing();
        fails("17 of NOTHING", f, f.held(none), Builder.NULL);
        fails("17 of a WHOLE", f, f.held(three), Builder.CAST);
        fails("17 of LINKS", f, f.held(f.links(three)), Builder.CAST);
        fails("18 of NOTHING", f, f.hold(none, three), Builder.NULL);
        fails("18 of a ROW", f, f.hold(f.row(three), none), Builder.CAST);
    }

    private static void copying() {
        Builder b = new Builder();
        int zero = b.whole(0);
        int one = b.whole(1);
        int three = b.whole(3);
        int from = b.slot(0);
        int to = b.slot(1);
        int two = b.whole(2);
        int filled = b.all(b.write(from, zero, b.whole(10)), b.write(from, one, b.whole(11)),
                b.write(from, two, b.whole(12)), b.write(to, two, b.whole(5)), b.copy(from, to, two), to);
        CHECKS.due("19", b.work.run(b.keep(b.row(three), 0, b.keep(b.row(three), 1, filled)), 200), 2);
        CHECKS.duePlace("19", b.work, 0, "10");
        CHECKS.duePlace("19", b.work, 1, "11");
        CHECKS.duePlace("19", b.work, 2, "5");
        CHECKS.due("19 gives z", b.wholeOf(b.copy(b.row(three), b.row(two), two)), 2);
        CHECKS.due("onto itself", b.wholeOf(b.keep(b.row(three), 0, b.copy(from, from, three))), 3);
        CHECKS.due("none", b.wholeOf(b.copy(b.links(zero), b.markedRow(zero), zero)), 0);
        int partly = b.all(b.write(from, zero, b.markedLink(zero)), b.write(from, one, b.link(zero)),
                b.write(from, two, b.markedLink(zero)), b.caught(b.copy(from, to, three), Builder.STORE, to));
        CHECKS.due("partly", b.work.run(b.keep(b.links(three), 0, b.keep(b.markedRow(three), 1, partly)), 200), 4);
        CHECKS.duePlace("copied ahead of it", b.work, 0, "2");
        CHECKS.duePlace("the LINK that is not MARKED", b.work, 1, "0");
        CHECKS.duePlace("behind it", b.work, 2, "0");
        CHECKS.due("one FAILURE", b.work.ended(4), 1);

        Builder f = new Builder();
        two = f.whole(2);
        three = f.whole(3);
        int none = f.nothing();
        int row = f.row(two);
        int links = f.links(two);
        int link = f.link(two);
        fails("z first: NULL", f, f.copy(two, two, none), Builder.NULL);
        fails("z first: CAST", f, f.copy(none, none, link), Builder.CAST);
        fails("x NOTHING", f, f.copy(none, row, three), Builder.NULL);
        fails("y NOTHING", f, f.copy(row, none, three), Builder.NULL);
        fails("NULL ahead of STORE", f, f.copy(two, none, three), Builder.NULL);
        fails("x no row", f, f.copy(two, row, three), Builder.STORE);
        fails("y no row", f, f.copy(row, link, three), Builder.STORE);
        fails("WHOLES to LINKS", f, f.copy(row, links, three), Builder.STORE);
        fails("LINKS to WHOLES", f, f.copy(f.markedRow(two), row, two), Builder.STORE);
        fails("below 0", f, f.copy(row, row, f.whole(-1)), Builder.INDEX);
        fails("beyond x", f, f.copy(row, f.row(three), three), Builder.INDEX);
        fails("beyond y", f, f.copy(f.row(three), row, three), Builder.INDEX);
        fails("LINKS of NOTHING to a MARKED ROW", f, f.copy(links, f.markedRow(two), two), 0);
    }

    private static void answersOfTheRun() {
        Builder b = new Builder();
        int three = b.whole(3);
        int[] things = {three, b.nothing(), b.row(three), b.links(three), b.markedRow(three), b.link(three),
            b.markedLink(three), b.later(three)};
        for (int sort = 0; sort < 8; sort++) {
            CHECKS.due("sort", b.work.run(things[sort], 20), sort);
            CHECKS.due("gave", b.work.gave(), sort == 0 || (sort >= 2 && sort <= 4) ? 3 : 0);
            CHECKS.due("ended(0)", b.work.ended(0), 0);
        }
        int runs = b.work.count(2);
        CHECKS.due("no such ACT", b.work.run(b.work.count(0), 20), SideWork.UNKNOWN);
        CHECKS.due("ACT -1", b.work.run(-1, 20), SideWork.UNKNOWN);
        for (int steps : new int[] {0, -1, 201, MIN, MAX}) {
            CHECKS.due("STEPS " + steps, b.work.run(0, steps), SideWork.OUTSIDE);
        }
        CHECKS.due("RUNS", b.work.count(2), runs);
        CHECKS.due("1 STEP", b.work.run(0, 1), 0);
        CHECKS.due("200 STEPS", b.work.run(0, 200), 0);
    }
}
