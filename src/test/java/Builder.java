/** Builds ACTS on a SideWork by name; every method answers the number of the new ACT. */
final class Builder {
    static final int NULL = 1, INDEX = 2, SIZE = 3, CAST = 4, STORE = 5, ARITHMETIC = 6, OWN = 7, RING = 8;
    static final int SPENT = 9, MUCH = 10, DEEP = 11, LONG = 12;
    static final int WHOLE = 0, NOTHING = 1, ROW = 2, LINKS = 3, MARKED_ROW = 4, LINK = 5, MARKED_LINK = 6, LATER = 7;

    final SideWork work = new SideWork();

    private int add(int kind, int a, int b, int c) {
        int act = work.act(kind, a, b, c);
        if (act < 0) {
            throw new IllegalStateException("act(" + kind + ", " + a + ", " + b + ", " + c + ") answered " + act);
        }
        return act;
    }

    int whole(int n) { return add(0, n, -9, -9); }
    int slot(int n) { return add(1, n, -9, -9); }
    int nothing() { return add(2, -9, -9, -9); }
    int then(int x, int y) { return add(3, x, y, -9); }
    int keep(int x, int slot, int z) { return add(4, x, slot, z); }
    int plus(int x, int y) { return add(5, x, y, -9); }
    int times(int x, int y) { return add(6, x, y, -9); }
    int divided(int x, int y) { return add(7, x, y, -9); }
    int below(int x, int y) { return add(8, x, y, -9); }
    int alike(int x, int y) { return add(9, x, y, -9); }
    int row(int x) { return add(10, x, -9, -9); }
    int links(int x) { return add(11, x, -9, -9); }
    int markedRow(int x) { return add(12, x, -9, -9); }
    int link(int x) { return add(13, x, -9, -9); }
    int markedLink(int x) { return add(14, x, -9, -9); }
    int read(int x, int y) { return add(15, x, y, -9); }
    int write(int x, int y, int z) { return add(16, x, y, z); }
    int held(int x) { return add(17, x, -9, -9); }
    int hold(int x, int y) { return add(18, x, y, -9); }
    int copy(int x, int y, int z) { return add(19, x, y, z); }
    int fail(int x) { return add(20, x, -9, -9); }
    int caught(int x, int kind, int z) { return add(21, x, kind, z); }
    int always(int x, int y) { return add(22, x, y, -9); }
    int choose(int x, int y, int z) { return add(23, x, y, z); }
    int loop(int x, int y) { return add(24, x, y, -9); }
    int call(int number, int x) { return add(25, number, x, -9); }
    int tell(int x) { return add(26, x, -9, -9); }
    int later(int x) { return add(27, x, -9, -9); }
    int force(int x) { return add(28, x, -9, -9); }
    int attempt(int x) { return add(29, x, -9, -9); }
    int fromBox(int box) { return add(30, box, -9, -9); }
    int toBox(int box, int x) { return add(31, box, x, -9); }

    /** x, then y, then z ..: the VALUE of the last. */
    int all(int... acts) {
        int whole = acts[acts.length - 1];
        for (int i = acts.length - 2; i >= 0; i--) {
            whole = then(acts[i], whole);
        }
        return whole;
    }

    /** An ACT for each sort of VALUE, by its number; rows have x places, the others have x. */
    int[] oneOfEachSort(int x) {
        return new int[] {x, nothing(), row(x), links(x), markedRow(x), link(x), markedLink(x), later(x)};
    }

    /** An ACT for each FAILURE, by its number, that FAILS so; OWN with the code. */
    int[] oneOfEachFailure(int ownCode) {
        int none = nothing();
        int zero = whole(0);
        int row = row(zero);
        int ring = keep(later(force(slot(0))), 0, force(slot(0)));
        return new int[] {none, held(none), read(row, zero), row(whole(-1)), held(zero), copy(zero, row, zero),
            divided(zero, zero), fail(whole(ownCode)), ring};
    }

    /** An ACT that ends the RUN so: SPENT, MUCH, DEEP or LONG. */
    int endsBy(int ending) {
        int one = whole(1);
        switch (ending) {
            case SPENT: return loop(one, one);
            case MUCH: return loop(one, caught(fail(one), 0, one));
            case DEEP: return call(work.count(0), one);
            default: return row(whole(17));
        }
    }

    /** Runs it with all the STEPS there can be: the WHOLE that it gave, or else 1,000,000 and its answer's size. */
    int wholeOf(int act) {
        int answer = work.run(act, 200);
        return answer == WHOLE ? work.gave() : 1000000 + Math.abs(answer);
    }

    /** Runs it: the FAILURE that nothing caught, 9 to 12, or 0. */
    int failureOf(int act) {
        int answer = work.run(act, 200);
        return answer >= 0 ? 0 : -10 - answer;
    }
}
