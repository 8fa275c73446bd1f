/** The VALUES, and the KINDS 0 to 19 where they do not FAIL: new things, their places, copies. */
public final class ValuesTest {
    private static final Checks CHECKS = new Checks("ValuesTest");
    private static final int MIN = Integer.MIN_VALUE, MAX = Integer.MAX_VALUE;

    public static void main(String[] args) {
        wholes();
        slots();
        slotsAreNothingAtFirst();
        nothing();
        oneThenTheOther();
        keeping();
        sums();
        products();
        quotients();
        wrapping();
        below();
        sameness();
        newRows();
        newLinks();
        linksThatHold();
        reading();
        writing();
        placesForLinks();
        placesForMarkedLinks();
        markedLinksAreLinks();
        holding();
        copying();
        copyingNone();
        copyingAll();
        CHECKS.finish();
    }

    private static void wholes() {
        CHECKS.sentence("0 the WHOLE a.");
        for (int n : new int[] {MIN, MIN + 1, -1, 0, 1, 5, MAX}) {
            Builder b = new Builder();
            CHECKS.due("run", b.work.run(b.whole(n), 1), Builder.WHOLE);
            CHECKS.due("gave", b.work.gave(), n);
        }
    }

    private static void slots() {
        CHECKS.sentence("1 what SLOT a holds.");
        for (int slot = 0; slot < 8; slot++) {
            Builder b = new Builder();
            int all = b.slot(slot);
            for (int i = 0; i < 8; i++) {
                all = b.keep(b.whole(10 + i), i, all);
            }
            CHECKS.due("SLOT " + slot, b.wholeOf(all), 10 + slot);
        }
    }

    private static void slotsAreNothingAtFirst() {
        CHECKS.sentence("A FRAME has SLOTS 0 to 7, all NOTHING at first.");
        Builder b = new Builder();
        int five = b.whole(5);
        for (int slot = 0; slot < 8; slot++) {
            int read = b.slot(slot);
            CHECKS.due("SLOT " + slot, b.work.run(read, 1), Builder.NOTHING);
            CHECKS.due("kept", b.wholeOf(b.keep(five, slot, read)), 5);
            CHECKS.due("in the next RUN", b.work.run(read, 1), Builder.NOTHING);
            int called = b.work.run(b.keep(five, slot, b.call(read, five)), 9);
            CHECKS.due("in a FRAME of 25", called, slot == 0 ? Builder.WHOLE : Builder.NOTHING);
        }
    }

    private static void nothing() {
        CHECKS.sentence("2 NOTHING.");
        Builder b = new Builder();
        CHECKS.due("run", b.work.run(b.nothing(), 1), Builder.NOTHING);
        CHECKS.due("gave", b.work.gave(), 0);
    }

    private static void oneThenTheOther() {
        CHECKS.sentence("3 x is done, then y: its VALUE.");
        Builder b = new Builder();
        int one = b.tell(b.whole(1));
        int two = b.tell(b.whole(2));
        CHECKS.due("3", b.wholeOf(b.then(one, two)), 2);
        CHECKS.due("x is done", b.work.out(0), 1);
        CHECKS.due("then y", b.work.out(1), 2);
        CHECKS.due("3 of one and the same", b.wholeOf(b.then(one, one)), 1);
        CHECKS.due("it is done twice", b.work.count(1), 2);
        CHECKS.due("y may give NOTHING", b.work.run(b.then(one, b.nothing()), 9), Builder.NOTHING);
    }

    private static void keeping() {
        CHECKS.sentence("4 x is done, SLOT b gets its VALUE, then z is done: its VALUE (x is a, z is c).");
        Builder b = new Builder();
        int five = b.whole(5);
        int kept = b.slot(0);
        CHECKS.due("SLOT 0", b.wholeOf(b.keep(five, 0, kept)), 5);
        CHECKS.due("SLOT 7", b.wholeOf(b.keep(five, 7, b.slot(7))), 5);
        CHECKS.due("another SLOT", b.work.run(b.keep(five, 1, b.slot(2)), 9), Builder.NOTHING);
        int more = b.keep(b.plus(kept, five), 0, kept);
        CHECKS.due("x sees what it held before", b.wholeOf(b.keep(five, 0, more)), 10);
        CHECKS.due("NOTHING is kept, too", b.work.run(b.keep(five, 0, b.keep(b.nothing(), 0, kept)), 9), Builder.NOTHING);
    }

    private static void sums() {
        CHECKS.sentence("5 x + y.");
        int[][] all = {{7, 2, 9}, {-7, 2, -5}, {0, 0, 0}, {MAX, 0, MAX}, {MIN, 0, MIN}, {MAX, MIN, -1}, {MAX, -1, MAX - 1}};
        for (int[] sum : all) {
            Builder b = new Builder();
            CHECKS.due(sum[0] + " + " + sum[1], b.wholeOf(b.plus(b.whole(sum[0]), b.whole(sum[1]))), sum[2]);
        }
    }

    private static void products() {
        CHECKS.sentence("6 x * y.");
        int[][] all = {{7, 2, 14}, {-7, 2, -14}, {0, MIN, 0}, {MAX, 1, MAX}, {MIN, 1, MIN}, {46340, 46340, 2147395600}};
        for (int[] product : all) {
            Builder b = new Builder();
            CHECKS.due(product[0] + " * " + product[1],
                    b.wholeOf(b.times(b.whole(product[0]), b.whole(product[1]))), product[2]);
        }
    }

    private static void quotients() {
        CHECKS.sentence("7 x / y, cut toward 0.");
        int[][] all = {{7, 2, 3}, {-7, 2, -3}, {7, -2, -3}, {-7, -2, 3}, {1, 2, 0}, {-1, 2, 0}, {0, 5, 0}, {0, -5, 0},
            {MAX, MIN, 0}, {MIN, MAX, -1}, {MIN, 1, MIN}, {MAX, -1, -MAX}, {MIN, MIN, 1}};
        for (int[] quotient : all) {
            Builder b = new Builder();
            CHECKS.due(quotient[0] + " / " + quotient[1],
                    b.wholeOf(b.divided(b.whole(quotient[0]), b.whole(quotient[1]))), quotient[2]);
        }
    }

    private static void wrapping() {
        CHECKS.sentence("WHOLES (32 bits, wrapping)");
        Builder b = new Builder();
        int max = b.whole(MAX);
        int min = b.whole(MIN);
        int one = b.whole(1);
        int minus = b.whole(-1);
        CHECKS.due("MAX + 1", b.wholeOf(b.plus(max, one)), MIN);
        CHECKS.due("MIN + -1", b.wholeOf(b.plus(min, minus)), MAX);
        CHECKS.due("MIN + MIN", b.wholeOf(b.plus(min, min)), 0);
        CHECKS.due("MAX + MAX", b.wholeOf(b.plus(max, max)), -2);
        CHECKS.due("MAX * MAX", b.wholeOf(b.times(max, max)), 1);
        CHECKS.due("MIN * -1", b.wholeOf(b.times(min, minus)), MIN);
        CHECKS.due("65536 * 65536", b.wholeOf(b.times(b.whole(65536), b.whole(65536))), 0);
        CHECKS.due("MIN / -1", b.wholeOf(b.divided(min, minus)), MIN);
        CHECKS.due("what wrapped is the same as the WHOLE", b.wholeOf(b.alike(b.plus(max, one), min)), 1);
        CHECKS.due("what wrapped below 0 is alike", b.wholeOf(b.alike(b.plus(max, max), b.whole(-2))), 1);
    }

    private static void below() {
        CHECKS.sentence("8 1 if x is below y, else 0: both WHOLES.");
        int[][] all = {{1, 2, 1}, {2, 1, 0}, {2, 2, 0}, {-1, 0, 1}, {0, -1, 0}, {MIN, MAX, 1}, {MAX, MIN, 0},
            {MIN, MIN, 0}, {MAX, MAX, 0}, {MIN, MIN + 1, 1}, {MAX - 1, MAX, 1}, {-2, 1, 1}};
        for (int[] pair : all) {
            Builder b = new Builder();
            CHECKS.due(pair[0] + " below " + pair[1], b.wholeOf(b.below(b.whole(pair[0]), b.whole(pair[1]))), pair[2]);
        }
    }

    private static void sameness() {
        CHECKS.sentence("9 1 if x and y are the same (WHOLES alike; NOTHING; one and the same), else 0.");
        Builder b = new Builder();
        int none = b.nothing();
        int zero = b.whole(0);
        CHECKS.due("NOTHING", b.wholeOf(b.alike(none, b.nothing())), 1);
        CHECKS.due("NOTHING and 0", b.wholeOf(b.alike(none, zero)), 0);
        CHECKS.due("0 and NOTHING", b.wholeOf(b.alike(zero, none)), 0);
        CHECKS.due("WHOLES alike", b.wholeOf(b.alike(zero, b.whole(0))), 1);
        CHECKS.due("WHOLES", b.wholeOf(b.alike(zero, b.whole(1))), 0);
        CHECKS.due("far WHOLES alike", b.wholeOf(b.alike(b.whole(MIN), b.whole(MIN))), 1);
        CHECKS.due("far WHOLES", b.wholeOf(b.alike(b.whole(MIN), b.whole(MAX))), 0);
        Builder t = new Builder();
        int kept = t.slot(0);
        int same = t.alike(kept, kept);
        for (int maker : t.oneOfEachSort(t.whole(0))) {
            if (t.work.run(maker, 9) > Builder.NOTHING) {
                CHECKS.due("two new ones", t.wholeOf(t.alike(maker, maker)), 0);
                CHECKS.due("a new one and NOTHING", t.wholeOf(t.alike(maker, t.nothing())), 0);
                CHECKS.due("one and the same", t.wholeOf(t.keep(maker, 0, same)), 1);
            }
        }
    }

    private static void newRows() {
        CHECKS.sentence("10 a new ROW of x places, 0s.");
        for (int length = 0; length <= 16; length++) {
            Builder b = new Builder();
            CHECKS.due("of " + length, b.work.run(b.row(b.whole(length)), 2), Builder.ROW);
            CHECKS.duePlaces("of " + length, b.work, new int[length]);
        }
        Builder b = new Builder();
        CHECKS.due("its place is a WHOLE", b.work.run(b.read(b.row(b.whole(1)), b.whole(0)), 9), Builder.WHOLE);
        int row = b.row(b.whole(2));
        b.work.run(b.keep(row, 0, b.then(b.write(b.slot(0), b.whole(1), b.whole(9)), row)), 50);
        CHECKS.duePlaces("each is a new one", b.work, 0, 0);
    }

    private static void newLinks() {
        CHECKS.sentence("11 new LINKS, 12 a new MARKED ROW of x places, NOTHING.");
        for (int length = 0; length <= 16; length++) {
            Builder b = new Builder();
            int n = b.whole(length);
            CHECKS.due("LINKS of " + length, b.work.run(b.links(n), 2), Builder.LINKS);
            CHECKS.duePlaces("LINKS of " + length, b.work, new int[length]);
            CHECKS.due("MARKED ROW of " + length, b.work.run(b.markedRow(n), 2), Builder.MARKED_ROW);
            CHECKS.duePlaces("MARKED ROW of " + length, b.work, new int[length]);
        }
        Builder b = new Builder();
        int one = b.whole(1);
        int zero = b.whole(0);
        CHECKS.due("a place of LINKS", b.work.run(b.read(b.links(one), zero), 9), Builder.NOTHING);
        CHECKS.due("a place of a MARKED ROW", b.work.run(b.read(b.markedRow(one), zero), 9), Builder.NOTHING);
    }

    private static void linksThatHold() {
        CHECKS.sentence("13 a new LINK, 14 a new MARKED LINK that holds x.");
        Builder b = new Builder();
        int[] things = b.oneOfEachSort(b.whole(3));
        for (int sort = 0; sort < 8; sort++) {
            int link = b.link(things[sort]);
            int marked = b.markedLink(things[sort]);
            CHECKS.due("13", b.work.run(link, 20), Builder.LINK);
            CHECKS.due("13 gave", b.work.gave(), 0);
            CHECKS.due("13 holds " + sort, b.work.run(b.held(link), 20), sort);
            CHECKS.due("14", b.work.run(marked, 20), Builder.MARKED_LINK);
            CHECKS.due("14 gave", b.work.gave(), 0);
            CHECKS.due("14 holds " + sort, b.work.run(b.held(marked), 20), sort);
        }
    }

    private static void reading() {
        CHECKS.sentence("15 place y of x.");
        for (int length : new int[] {1, 2, 16}) {
            for (int at = 0; at < length; at++) {
                Builder b = new Builder();
                int kept = b.slot(0);
                int fill = b.write(kept, b.whole(at), b.whole(70 + at));
                int row = b.row(b.whole(length));
                CHECKS.due("place " + at + " of " + length,
                        b.wholeOf(b.keep(row, 0, b.then(fill, b.read(kept, b.whole(at))))), 70 + at);
                int other = (at + 1) % length;
                CHECKS.due("place " + other + " of " + length,
                        b.wholeOf(b.keep(row, 0, b.then(fill, b.read(kept, b.whole(other))))), other == at ? 70 + at : 0);
            }
        }
    }

    private static void writing() {
        CHECKS.sentence("16 place y of x becomes z; z.");
        Builder b = new Builder();
        int zero = b.whole(0);
        int three = b.whole(3);
        int last = b.whole(2);
        int row = b.row(three);
        int kept = b.slot(0);
        CHECKS.due("it gives z", b.wholeOf(b.write(row, last, b.whole(MIN))), MIN);
        b.work.run(b.keep(row, 0, b.then(b.write(kept, zero, b.whole(MAX)), kept)), 50);
        CHECKS.duePlaces("the first", b.work, MAX, 0, 0);
        b.work.run(b.keep(row, 0, b.then(b.write(kept, last, b.whole(-1)), kept)), 50);
        CHECKS.duePlaces("the last", b.work, 0, 0, -1);
        int twice = b.all(b.write(kept, last, three), b.write(kept, last, last), kept);
        b.work.run(b.keep(row, 0, twice), 50);
        CHECKS.duePlaces("twice", b.work, 0, 0, 2);
        int beside = b.keep(row, 1, b.then(b.write(kept, last, three), b.slot(1)));
        b.work.run(b.keep(row, 0, beside), 50);
        CHECKS.duePlaces("another ROW", b.work, 0, 0, 0);
    }

    private static void placesForLinks() {
        CHECKS.sentence("LINKS (rows of places for LINK and MARKED LINK)");
        Builder b = new Builder();
        int zero = b.whole(0);
        int one = b.whole(1);
        int kept = b.slot(0);
        int links = b.links(b.whole(3));
        int both = b.all(b.write(kept, zero, b.markedLink(zero)), b.write(kept, one, b.link(zero)), kept);
        CHECKS.due("run", b.work.run(b.keep(links, 0, both), 50), Builder.LINKS);
        CHECKS.duePlaces("both", b.work, 2, 1, 0);
        int emptied = b.all(both, b.write(kept, one, b.nothing()), kept);
        b.work.run(b.keep(links, 0, emptied), 50);
        CHECKS.duePlaces("NOTHING comes back", b.work, 2, 0, 0);
        CHECKS.due("16 gives a LINK", b.work.run(b.write(links, one, b.link(zero)), 20), Builder.LINK);
        CHECKS.due("16 gives NOTHING", b.work.run(b.write(links, one, b.nothing()), 20), Builder.NOTHING);
        int twice = b.then(both, b.alike(b.read(kept, one), b.read(kept, one)));
        CHECKS.due("it is one and the same LINK", b.wholeOf(b.keep(links, 0, twice)), 1);
    }

    private static void placesForMarkedLinks() {
        CHECKS.sentence("MARKED ROWS (for MARKED LINKS alone)");
        Builder b = new Builder();
        int zero = b.whole(0);
        int one = b.whole(1);
        int kept = b.slot(0);
        int row = b.markedRow(b.whole(2));
        int marked = b.write(kept, zero, b.markedLink(zero));
        CHECKS.due("run", b.work.run(b.keep(row, 0, b.then(marked, kept)), 50), Builder.MARKED_ROW);
        CHECKS.duePlaces("a MARKED LINK", b.work, 2, 0);
        b.work.run(b.keep(row, 0, b.all(marked, b.write(kept, zero, b.nothing()), kept)), 50);
        CHECKS.duePlaces("NOTHING comes back", b.work, 0, 0);
        int refused = b.caught(b.write(kept, one, b.link(zero)), Builder.STORE, kept);
        b.work.run(b.keep(row, 0, b.then(marked, refused)), 50);
        CHECKS.duePlaces("no LINK that is not MARKED", b.work, 2, 0);
        CHECKS.due("it FAILED", b.work.ended(4), 1);
    }

    private static void markedLinksAreLinks() {
        CHECKS.sentence("a MARKED LINK (which is a LINK, too)");
        Builder b = new Builder();
        int zero = b.whole(0);
        int five = b.whole(5);
        int kept = b.slot(0);
        int marked = b.markedLink(five);
        CHECKS.due("17", b.wholeOf(b.held(marked)), 5);
        CHECKS.due("18", b.wholeOf(b.keep(marked, 0, b.then(b.hold(kept, zero), b.held(kept)))), 0);
        CHECKS.due("16 of LINKS", b.work.run(b.write(b.links(five), zero, marked), 20), Builder.MARKED_LINK);
        CHECKS.due("its sort is its own", b.work.run(marked, 20), Builder.MARKED_LINK);
    }

    private static void holding() {
        CHECKS.sentence("17 what LINK x holds. 18 LINK x holds y; y.");
        Builder b = new Builder();
        int three = b.whole(3);
        int kept = b.slot(0);
        int[] things = b.oneOfEachSort(three);
        for (int sort = 0; sort < 8; sort++) {
            int hold = b.hold(kept, things[sort]);
            CHECKS.due("18 gives " + sort, b.work.run(b.keep(things[5], 0, hold), 20), sort);
            CHECKS.due("17 of it", b.work.run(b.keep(things[5], 0, b.then(hold, b.held(kept))), 20), sort);
        }
        CHECKS.due("a LINK holds itself",
                b.wholeOf(b.keep(things[5], 0, b.then(b.hold(kept, kept), b.alike(kept, b.held(kept))))), 1);
    }

    /** SLOT 0: a ROW of 10, 11, 12; SLOT 1: a ROW of so many places, all -1; then the ACT. */
    private static int twoRows(Builder b, int length, int then) {
        int from = b.slot(0);
        int to = b.slot(1);
        int all = then;
        for (int i = length - 1; i >= 0; i--) {
            all = b.then(b.write(to, b.whole(i), b.whole(-1)), all);
        }
        for (int i = 2; i >= 0; i--) {
            all = b.then(b.write(from, b.whole(i), b.whole(10 + i)), all);
        }
        return b.keep(b.row(b.whole(3)), 0, b.keep(b.row(b.whole(length)), 1, all));
    }

    private static void copying() {
        CHECKS.sentence("19 the first z places of x are copied to the first ones of y; z.");
        copied("2 of 3 to 2", 2, 1, 1, 10, 11);
        copied("2 of 3 to 3", 2, 1, 1, 10, 11, -1);
        copied("2 of 3 to 4", 2, 1, 1, 10, 11, -1, -1);
        copied("1 of 3 to 1", 1, 1, 1, 10);
        copied("x is left", 2, 1, 0, 10, 11, 12);
        copied("onto itself", 3, 0, 0, 10, 11, 12);
        Builder b = new Builder();
        CHECKS.due("it gives z", b.wholeOf(b.copy(b.row(b.whole(3)), b.row(b.whole(2)), b.whole(2))), 2);
    }

    /** Copies so many places of SLOT 0 to those of another SLOT: then these are the places of the SLOT that is shown. */
    private static void copied(String what, int many, int to, int shown, int... due) {
        Builder b = new Builder();
        int copy = b.copy(b.slot(0), b.slot(to), b.whole(many));
        b.work.run(twoRows(b, shown == 1 ? due.length : 2, b.then(copy, b.slot(shown))), 200);
        CHECKS.duePlaces(what, b.work, due);
    }

    private static void copyingNone() {
        CHECKS.sentence("the first z places of x (here none)");
        copied("0 of 3 to 2", 0, 1, 1, -1, -1);
        Builder b = new Builder();
        int zero = b.whole(0);
        CHECKS.due("it gives 0", b.wholeOf(b.copy(b.row(b.whole(3)), b.row(b.whole(2)), zero)), 0);
        CHECKS.due("of ROWS without places", b.wholeOf(b.copy(b.row(zero), b.row(zero), zero)), 0);
        CHECKS.due("of LINKS without places", b.wholeOf(b.copy(b.links(zero), b.markedRow(zero), zero)), 0);
    }

    private static void copyingAll() {
        CHECKS.sentence("the first z places of x (here all)");
        copied("3 of 3 to 3", 3, 1, 1, 10, 11, 12);
        Builder s = new Builder();
        int sixteen = s.whole(16);
        int kept = s.slot(0);
        int fill = s.all(s.write(kept, s.whole(0), sixteen), s.write(kept, s.whole(15), s.whole(9)));
        int to = s.slot(1);
        s.work.run(s.keep(s.row(sixteen), 0, s.keep(s.row(sixteen), 1, s.all(fill, s.copy(kept, to, sixteen), to))), 200);
        CHECKS.due("16 of 16: gave", s.work.gave(), 16);
        CHECKS.duePlace("the first", s.work, 0, "16");
        CHECKS.duePlace("between", s.work, 7, "0");
        CHECKS.duePlace("the last", s.work, 15, "9");
    }
}
