/** Which FAILURE comes, of several the first one, and its code: the KINDS 5 to 28 where they FAIL by themselves. */
public final class FailuresTest {
    private static final Checks CHECKS = new Checks("FailuresTest");
    private static final int MIN = Integer.MIN_VALUE, MAX = Integer.MAX_VALUE;

    public static void main(String[] args) {
        partsFromTheLeft();
        partsThenWork();
        codes();
        codesOfOwn();
        wantedWholes();
        severalFromTheLeft();
        divisionByZero();
        lengthBelowZero();
        readingWhere();
        readingOfNoRow();
        readingOfNothing();
        readingIndex();
        writingWhere();
        writingIntoLinks();
        writingIntoOthers();
        writingOfNoRow();
        writingIndex();
        writingStore();
        holdingOfNoLink();
        copyingHowMany();
        copyingNothing();
        copyingNoRow();
        copyingIndex();
        copyingStore();
        workingNoLater();
        workingInARing();
        CHECKS.finish();
    }

    private static void partsFromTheLeft() {
        CHECKS.sentence("Parts are done from the left (x, y, z)");
        Builder b = new Builder();
        int one = b.tell(b.whole(1));
        int two = b.tell(b.whole(2));
        int three = b.tell(b.whole(3));
        int[] ofTwo = {b.plus(one, two), b.times(one, two), b.divided(one, two), b.below(one, two), b.alike(one, two),
            b.read(one, two), b.hold(one, two)};
        for (int act : ofTwo) {
            toldInTurn(b, act, 2);
        }
        toldInTurn(b, b.write(one, two, three), 3);
        toldInTurn(b, b.copy(one, two, three), 3);
    }

    private static void toldInTurn(Builder b, int act, int many) {
        b.work.run(act, 50);
        CHECKS.due("KIND " + b.work.told(act, 0) + " tells", b.work.count(1), many);
        for (int i = 0; i < many; i++) {
            CHECKS.due("KIND " + b.work.told(act, 0) + " part " + i, b.work.out(i), i + 1);
        }
    }

    private static void partsThenWork() {
        CHECKS.sentence("then it is worked");
        Builder b = new Builder();
        int one = b.tell(b.whole(1));
        int none = b.nothing();
        int fail = b.fail(b.whole(0));
        CHECKS.due("a FAILURE of x", b.failureOf(b.plus(fail, one)), Builder.OWN);
        CHECKS.due("y is not done", b.work.count(1), 0);
        CHECKS.due("a FAILURE of y is ahead of the NULL of x", b.failureOf(b.plus(none, fail)), Builder.OWN);
        CHECKS.due("a FAILURE of z is ahead of the NULL of y", b.failureOf(b.write(none, none, fail)), Builder.OWN);
        CHECKS.due("a FAILURE of y is ahead of the CAST of x", b.failureOf(b.hold(one, fail)), Builder.OWN);
        CHECKS.due("a FAILURE of z is ahead of the NULL of x", b.failureOf(b.copy(none, none, fail)), Builder.OWN);
        CHECKS.due("y is done, though x is NOTHING", b.failureOf(b.times(none, one)), Builder.NULL);
        CHECKS.due("it is told", b.work.count(1), 1);
    }

    private static void codes() {
        CHECKS.sentence("FAILURES, each with a code: 1 NULL, 2 INDEX, 3 SIZE, 4 CAST, 5 STORE, 6 ARITHMETIC, 7 OWN, 8 RING");
        Builder b = new Builder();
        int[] failing = b.oneOfEachFailure(99);
        for (int kind = 1; kind <= 8; kind++) {
            CHECKS.due("run of " + kind, b.work.run(failing[kind], 50), -10 - kind);
            CHECKS.due("the kind", b.work.ended(0), kind);
            CHECKS.due("the code", b.work.ended(1), kind == Builder.OWN ? 99 : kind);
            CHECKS.due("in SLOT 7", b.wholeOf(b.caught(failing[kind], kind, b.slot(7))), kind == Builder.OWN ? 99 : kind);
        }
    }

    private static void codesOfOwn() {
        CHECKS.sentence("7 OWN (the WHOLE; of the others the number of its kind)");
        for (int code : new int[] {MIN, -1, 0, 1, 8, 9, MAX}) {
            Builder b = new Builder();
            int fail = b.fail(b.whole(code));
            CHECKS.due("run", b.work.run(fail, 9), -17);
            CHECKS.dueEnd("20 of " + code, b.work, Builder.OWN, code, fail, 2, 1);
            CHECKS.due("in SLOT 7", b.wholeOf(b.caught(fail, Builder.OWN, b.slot(7))), code);
            CHECKS.due("it is OWN, whatever its code", b.failureOf(b.caught(fail, Builder.NULL, b.slot(7))), Builder.OWN);
        }
    }

    private static void wantedWholes() {
        CHECKS.sentence("Where a WHOLE is wanted: NULL of NOTHING, CAST of another thing");
        for (int sort = 1; sort < 8; sort++) {
            Builder b = new Builder();
            int one = b.whole(1);
            int row = b.row(one);
            int no = b.oneOfEachSort(one)[sort];
            int[] wanting = {b.plus(no, one), b.plus(one, no), b.times(no, one), b.times(one, no), b.divided(no, one),
                b.divided(one, no), b.below(no, one), b.below(one, no), b.row(no), b.links(no), b.markedRow(no),
                b.read(row, no), b.write(row, no, one), b.write(row, b.whole(0), no), b.copy(row, row, no), b.fail(no),
                b.choose(no, one, one), b.loop(no, one), b.tell(no)};
            for (int act : wanting) {
                String what = "KIND " + b.work.told(act, 0) + " of sort " + sort;
                CHECKS.fails(what, b, act, sort == Builder.NOTHING ? Builder.NULL : Builder.CAST);
                CHECKS.due(what + ": told", b.work.count(1), 0);
            }
        }
    }

    private static void severalFromTheLeft() {
        CHECKS.sentence("of several from the left");
        Builder b = new Builder();
        int none = b.nothing();
        int thing = b.link(none);
        int[] nullFirst = {b.plus(none, thing), b.times(none, thing), b.divided(none, thing), b.below(none, thing)};
        int[] castFirst = {b.plus(thing, none), b.times(thing, none), b.divided(thing, none), b.below(thing, none)};
        for (int i = 0; i < 4; i++) {
            CHECKS.fails("KIND " + (5 + i) + " of NOTHING and a LINK", b, nullFirst[i], Builder.NULL);
            CHECKS.fails("KIND " + (5 + i) + " of a LINK and NOTHING", b, castFirst[i], Builder.CAST);
        }
        CHECKS.fails("y of 16 ahead of z", b, b.write(none, none, thing), Builder.NULL);
        CHECKS.fails("y of 16 ahead of z: CAST", b, b.write(none, thing, none), Builder.CAST);
    }

    private static void divisionByZero() {
        CHECKS.sentence("7: ARITHMETIC by 0.");
        Builder b = new Builder();
        int zero = b.whole(0);
        for (int n : new int[] {MIN, -1, 0, 1, MAX}) {
            CHECKS.fails(n + " / 0", b, b.divided(b.whole(n), zero), Builder.ARITHMETIC);
        }
        CHECKS.fails("NOTHING / 0", b, b.divided(b.nothing(), zero), Builder.NULL);
        CHECKS.fails("a LINK / 0", b, b.divided(b.link(zero), zero), Builder.CAST);
        CHECKS.fails("by NOTHING, which is not 0", b, b.divided(zero, b.nothing()), Builder.NULL);
        CHECKS.fails("0 / 1", b, b.divided(zero, b.whole(1)), 0);
    }

    private static void lengthBelowZero() {
        CHECKS.sentence("10 to 12: SIZE below 0.");
        for (int length : new int[] {MIN, -17, -1, 0, 1}) {
            Builder b = new Builder();
            int n = b.whole(length);
            int due = length < 0 ? Builder.SIZE : 0;
            CHECKS.fails("10 of " + length, b, b.row(n), due);
            CHECKS.fails("11 of " + length, b, b.links(n), due);
            CHECKS.fails("12 of " + length, b, b.markedRow(n), due);
        }
    }

    private static void readingWhere() {
        CHECKS.sentence("15: y a WHOLE");
        Builder b = new Builder();
        int none = b.nothing();
        int two = b.whole(2);
        int link = b.link(two);
        CHECKS.fails("ahead of x's CAST", b, b.read(two, none), Builder.NULL);
        CHECKS.fails("ahead of x's NULL", b, b.read(none, link), Builder.CAST);
        CHECKS.fails("of a ROW", b, b.read(b.row(two), none), Builder.NULL);
        CHECKS.fails("a ROW is no WHOLE", b, b.read(b.row(two), b.row(two)), Builder.CAST);
    }

    private static void readingOfNoRow() {
        CHECKS.sentence("15: then CAST: x is no ROW, LINKS, MARKED ROW");
        Builder b = new Builder();
        int one = b.whole(1);
        int[] things = b.oneOfEachSort(one);
        int far = b.whole(-1);
        for (int sort : new int[] {Builder.WHOLE, Builder.LINK, Builder.MARKED_LINK, Builder.LATER}) {
            CHECKS.fails("of sort " + sort, b, b.read(things[sort], b.whole(0)), Builder.CAST);
            CHECKS.fails("of sort " + sort + ", ahead of INDEX", b, b.read(things[sort], far), Builder.CAST);
        }
        for (int sort = Builder.ROW; sort <= Builder.MARKED_ROW; sort++) {
            CHECKS.fails("of sort " + sort, b, b.read(things[sort], b.whole(0)), 0);
        }
    }

    private static void readingOfNothing() {
        CHECKS.sentence("15: NULL: it is NOTHING");
        Builder b = new Builder();
        CHECKS.fails("place 0", b, b.read(b.nothing(), b.whole(0)), Builder.NULL);
        CHECKS.fails("ahead of INDEX", b, b.read(b.nothing(), b.whole(-1)), Builder.NULL);
    }

    private static void readingIndex() {
        CHECKS.sentence("15: INDEX");
        for (int length : new int[] {0, 1, 16}) {
            for (int at : new int[] {MIN, -1, 0, length - 1, length, length + 1, MAX}) {
                Builder b = new Builder();
                int n = b.whole(length);
                int y = b.whole(at);
                int due = at < 0 || at >= length ? Builder.INDEX : 0;
                CHECKS.fails("place " + at + " of a ROW of " + length, b, b.read(b.row(n), y), due);
                CHECKS.fails("place " + at + " of LINKS of " + length, b, b.read(b.links(n), y), due);
                CHECKS.fails("place " + at + " of a MARKED ROW of " + length, b, b.read(b.markedRow(n), y), due);
            }
        }
    }

    private static void writingWhere() {
        CHECKS.sentence("16: y");
        Builder b = new Builder();
        int none = b.nothing();
        int zero = b.whole(0);
        int one = b.whole(1);
        int link = b.link(zero);
        CHECKS.fails("ahead of z of LINKS", b, b.write(b.links(one), none, zero), Builder.NULL);
        CHECKS.fails("ahead of z of a ROW", b, b.write(b.row(one), link, none), Builder.CAST);
        CHECKS.fails("ahead of x's CAST", b, b.write(zero, none, zero), Builder.NULL);
        CHECKS.fails("ahead of x's NULL", b, b.write(none, link, zero), Builder.CAST);
    }

    private static void writingIntoLinks() {
        CHECKS.sentence("16: then of LINKS, a MARKED ROW: CAST: z is neither NOTHING nor a LINK");
        Builder b = new Builder();
        int one = b.whole(1);
        int zero = b.whole(0);
        int[] things = b.oneOfEachSort(one);
        int links = b.links(one);
        int markedRow = b.markedRow(one);
        for (int sort = 0; sort < 8; sort++) {
            boolean fits = sort == Builder.NOTHING || sort == Builder.LINK || sort == Builder.MARKED_LINK;
            CHECKS.fails("LINKS, sort " + sort, b, b.write(links, zero, things[sort]), fits ? 0 : Builder.CAST);
            if (sort != Builder.LINK) {
                CHECKS.fails("MARKED ROW, sort " + sort, b, b.write(markedRow, zero, things[sort]), fits ? 0 : Builder.CAST);
            }
        }
        CHECKS.fails("LINKS: ahead of INDEX", b, b.write(links, one, one), Builder.CAST);
        CHECKS.fails("MARKED ROW: ahead of INDEX", b, b.write(markedRow, b.whole(-1), one), Builder.CAST);
    }

    private static void writingIntoOthers() {
        CHECKS.sentence("16: else z a WHOLE");
        Builder b = new Builder();
        int one = b.whole(1);
        int none = b.nothing();
        int row = b.row(one);
        int link = b.link(one);
        CHECKS.fails("a ROW and NOTHING, ahead of INDEX", b, b.write(row, one, none), Builder.NULL);
        CHECKS.fails("a ROW and a LINK, ahead of INDEX", b, b.write(row, one, link), Builder.CAST);
        CHECKS.fails("ahead of x's CAST", b, b.write(one, one, none), Builder.NULL);
        CHECKS.fails("a LINK, which has no places", b, b.write(link, one, none), Builder.NULL);
        CHECKS.fails("ahead of x's NULL", b, b.write(none, one, link), Builder.CAST);
    }

    private static void writingOfNoRow() {
        CHECKS.sentence("16: then of x CAST, NULL");
        Builder b = new Builder();
        int one = b.whole(1);
        int far = b.whole(-1);
        int[] things = b.oneOfEachSort(one);
        for (int sort : new int[] {Builder.WHOLE, Builder.LINK, Builder.MARKED_LINK, Builder.LATER}) {
            CHECKS.fails("sort " + sort, b, b.write(things[sort], one, one), Builder.CAST);
            CHECKS.fails("sort " + sort + ", ahead of INDEX", b, b.write(things[sort], far, one), Builder.CAST);
        }
        CHECKS.fails("NOTHING", b, b.write(things[1], one, one), Builder.NULL);
        CHECKS.fails("NOTHING, ahead of INDEX", b, b.write(things[1], far, one), Builder.NULL);
    }

    private static void writingIndex() {
        CHECKS.sentence("16: INDEX");
        for (int length : new int[] {0, 1, 16}) {
            for (int at : new int[] {MIN, -1, 0, length - 1, length, length + 1, MAX}) {
                Builder b = new Builder();
                int n = b.whole(length);
                int y = b.whole(at);
                int due = at < 0 || at >= length ? Builder.INDEX : 0;
                int marked = b.markedLink(n);
                CHECKS.fails("place " + at + " of a ROW of " + length, b, b.write(b.row(n), y, n), due);
                CHECKS.fails("place " + at + " of LINKS of " + length, b, b.write(b.links(n), y, marked), due);
                CHECKS.fails("place " + at + " of a MARKED ROW of " + length, b, b.write(b.markedRow(n), y, marked), due);
                if (due != 0) {
                    CHECKS.fails("ahead of STORE", b, b.write(b.markedRow(n), y, b.link(n)), due);
                }
            }
        }
    }

    private static void writingStore() {
        CHECKS.sentence("16: STORE: a LINK that is not MARKED for a MARKED ROW.");
        Builder b = new Builder();
        int zero = b.whole(0);
        int two = b.whole(2);
        int link = b.link(zero);
        CHECKS.fails("the first place", b, b.write(b.markedRow(two), zero, link), Builder.STORE);
        CHECKS.fails("the last place", b, b.write(b.markedRow(two), b.whole(1), link), Builder.STORE);
        CHECKS.fails("LINKS take it", b, b.write(b.links(two), zero, link), 0);
        CHECKS.fails("a MARKED LINK", b, b.write(b.markedRow(two), zero, b.markedLink(zero)), 0);
        CHECKS.fails("NOTHING", b, b.write(b.markedRow(two), zero, b.nothing()), 0);
    }

    private static void holdingOfNoLink() {
        CHECKS.sentence("17, 18: CAST, NULL of x.");
        Builder b = new Builder();
        int[] things = b.oneOfEachSort(b.whole(3));
        for (int sort = 0; sort < 8; sort++) {
            boolean isLink = sort == Builder.LINK || sort == Builder.MARKED_LINK;
            int due = isLink ? 0 : sort == Builder.NOTHING ? Builder.NULL : Builder.CAST;
            CHECKS.fails("17 of sort " + sort, b, b.held(things[sort]), due);
            CHECKS.fails("18 of sort " + sort, b, b.hold(things[sort], things[1]), due);
        }
    }

    private static void copyingHowMany() {
        CHECKS.sentence("19: z a WHOLE");
        Builder b = new Builder();
        int two = b.whole(2);
        int none = b.nothing();
        CHECKS.fails("ahead of x's NULL", b, b.copy(none, none, b.link(two)), Builder.CAST);
        CHECKS.fails("ahead of STORE", b, b.copy(two, two, none), Builder.NULL);
        CHECKS.fails("of ROWS", b, b.copy(b.row(two), b.row(two), b.row(two)), Builder.CAST);
    }

    private static void copyingNothing() {
        CHECKS.sentence("19: then NULL: x or y is NOTHING");
        Builder b = new Builder();
        int three = b.whole(3);
        int none = b.nothing();
        int row = b.row(b.whole(2));
        CHECKS.fails("x, ahead of INDEX", b, b.copy(none, row, three), Builder.NULL);
        CHECKS.fails("y, ahead of INDEX", b, b.copy(row, none, three), Builder.NULL);
        CHECKS.fails("both", b, b.copy(none, none, b.whole(0)), Builder.NULL);
        CHECKS.fails("x, ahead of y's STORE", b, b.copy(none, three, three), Builder.NULL);
        CHECKS.fails("y, ahead of x's STORE", b, b.copy(three, none, three), Builder.NULL);
        CHECKS.fails("no place", b, b.copy(row, none, b.whole(0)), Builder.NULL);
    }

    private static void copyingNoRow() {
        CHECKS.sentence("19: STORE: one is no row of any sort, or one has WHOLES and the other has not");
        for (int x = 0; x < 8; x++) {
            for (int y = 0; y < 8; y++) {
                if (x != Builder.NOTHING && y != Builder.NOTHING) {
                    copyingSorts(x, y);
                }
            }
        }
    }

    private static void copyingSorts(int x, int y) {
        boolean rows = x >= Builder.ROW && x <= Builder.MARKED_ROW && y >= Builder.ROW && y <= Builder.MARKED_ROW;
        boolean fits = rows && (x == Builder.ROW) == (y == Builder.ROW);
        Builder b = new Builder();
        int[] things = b.oneOfEachSort(b.whole(1));
        int from = things[x];
        int to = things[y];
        String what = "sorts " + x + " and " + y;
        CHECKS.fails(what, b, b.copy(from, to, b.whole(0)), fits ? 0 : Builder.STORE);
        CHECKS.fails(what + " ahead of INDEX", b, b.copy(from, to, b.whole(-1)), fits ? Builder.INDEX : Builder.STORE);
        CHECKS.fails(what + " ahead of INDEX", b, b.copy(from, to, b.whole(2)), fits ? Builder.INDEX : Builder.STORE);
    }

    private static void copyingIndex() {
        CHECKS.sentence("19: INDEX: z below 0, or beyond one of both");
        for (int many : new int[] {MIN, -1, 0, 2, 3, 4, MAX}) {
            Builder b = new Builder();
            int z = b.whole(many);
            int two = b.whole(2);
            int three = b.whole(3);
            int dueOfTwo = many < 0 || many > 2 ? Builder.INDEX : 0;
            int dueOfThree = many < 0 || many > 3 ? Builder.INDEX : 0;
            CHECKS.fails(many + " beyond x", b, b.copy(b.row(two), b.row(three), z), dueOfTwo);
            CHECKS.fails(many + " beyond y", b, b.copy(b.row(three), b.row(two), z), dueOfTwo);
            CHECKS.fails(many + " of 3", b, b.copy(b.row(three), b.row(three), z), dueOfThree);
            CHECKS.fails(many + " of LINKS", b, b.copy(b.links(three), b.markedRow(two), z), dueOfTwo);
        }
        Builder b = new Builder();
        int kept = b.slot(0);
        int fill = b.write(b.slot(1), b.whole(0), b.whole(5));
        int copy = b.caught(b.copy(b.slot(1), kept, b.whole(3)), Builder.INDEX, kept);
        int rows = b.keep(b.row(b.whole(2)), 0, b.keep(b.row(b.whole(3)), 1, b.then(fill, copy)));
        CHECKS.due("nothing is copied", b.work.run(rows, 50), Builder.ROW);
        CHECKS.duePlaces("nothing is copied", b.work, 0, 0);
    }

    /** LINKS with a LINK that is not MARKED at one place, MARKED ones at the others, copied to a MARKED ROW. */
    private static void copyingStore() {
        CHECKS.sentence("19: then place by place STORE: a LINK that is not MARKED comes to a MARKED ROW (those ahead of it are copied).");
        int[][] due = {{0, 0, 0}, {2, 0, 0}, {2, 2, 0}};
        for (int strange = 0; strange < 3; strange++) {
            Builder b = new Builder();
            int from = b.slot(0);
            int to = b.slot(1);
            int copy = b.copy(from, to, b.whole(3));
            int all = b.caught(copy, Builder.STORE, to);
            for (int i = 0; i < 3; i++) {
                int link = i == strange ? b.link(from) : b.markedLink(from);
                all = b.then(b.write(from, b.whole(i), link), all);
            }
            int three = b.whole(3);
            int whole = b.keep(b.links(three), 0, b.keep(b.markedRow(three), 1, all));
            CHECKS.due("run", b.work.run(whole, 200), Builder.MARKED_ROW);
            CHECKS.duePlaces("strange at " + strange, b.work, due[strange]);
            CHECKS.due("one FAILURE", b.work.ended(4), 1);
        }
        Builder b = new Builder();
        int one = b.whole(1);
        int kept = b.slot(0);
        int second = b.write(kept, one, b.link(kept));
        int few = b.keep(b.links(b.whole(2)), 0, b.then(second, b.copy(kept, b.markedRow(one), one)));
        CHECKS.due("one behind the places that are copied", b.wholeOf(few), 1);
        int toLinks = b.keep(b.links(b.whole(2)), 0, b.then(second, b.copy(kept, b.links(b.whole(2)), b.whole(2))));
        CHECKS.due("LINKS take it", b.wholeOf(toLinks), 2);
        CHECKS.due("NOTHING comes to a MARKED ROW", b.wholeOf(b.copy(b.links(one), b.markedRow(one), one)), 1);
    }

    private static void workingNoLater() {
        CHECKS.sentence("28: CAST, NULL of x");
        Builder b = new Builder();
        int[] things = b.oneOfEachSort(b.whole(2));
        for (int sort = 0; sort < 8; sort++) {
            int due = sort == Builder.LATER ? 0 : sort == Builder.NOTHING ? Builder.NULL : Builder.CAST;
            CHECKS.fails("sort " + sort, b, b.force(things[sort]), due);
        }
    }

    private static void workingInARing() {
        CHECKS.sentence("28: RING: it is being worked.");
        Builder b = new Builder();
        int kept = b.slot(0);
        int inner = b.force(kept);
        int outer = b.force(kept);
        CHECKS.due("in itself", b.work.run(b.keep(b.later(inner), 0, outer), 50), -18);
        CHECKS.dueEnd("in itself", b.work, Builder.RING, Builder.RING, inner, 6, 1);
        int other = b.force(b.slot(1));
        int two = b.keep(b.later(other), 0, b.keep(b.later(inner), 1, outer));
        CHECKS.due("by another one", b.work.run(two, 50), -18);
        CHECKS.due("at", b.work.ended(2), inner);
        int inCall = b.call(b.force(b.slot(0)), kept);
        CHECKS.due("in another FRAME", b.work.run(b.keep(b.later(inCall), 0, outer), 50), -18);
        int calm = b.caught(inner, Builder.RING, b.whole(12));
        CHECKS.due("caught inside", b.wholeOf(b.keep(b.later(calm), 0, b.plus(outer, outer))), 24);
        CHECKS.due("one FAILURE", b.work.ended(4), 1);
        int ended = b.keep(b.later(b.whole(4)), 0, b.plus(outer, outer));
        CHECKS.due("one that is no more worked", b.wholeOf(ended), 8);
        int failed = b.keep(b.later(b.fail(b.whole(3))), 0, b.caught(outer, Builder.OWN, outer));
        CHECKS.due("one that FAILED is no more worked", b.failureOf(failed), Builder.OWN);
    }
}
