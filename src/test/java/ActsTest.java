/** Promises 1, 2, 3, 12 and 13: what there is at first, ACTS and their refusals, told, count, clear. */
public final class ActsTest {
    private static final int UNKNOWN = SideWork.UNKNOWN, OUTSIDE = SideWork.OUTSIDE, ROOM = SideWork.ROOM;
    private static final Checks CHECKS = new Checks("ActsTest");

    public static void main(String[] args) {
        newObject("new", new SideWork(), 0);
        refusals();
        whatAKindDoesNotHave();
        firstCodeThatFits();
        room();
        told();
        countAndClear();
        CHECKS.finish();
    }

    private static void newObject(String name, SideWork work, int runs) {
        for (int what = 0; what <= 4; what++) {
            CHECKS.due(name + " ended(" + what + ")", work.ended(what), what == 2 ? -1 : 0);
        }
        CHECKS.due(name + " gave()", work.gave(), 0);
        CHECKS.duePlace(name, work, 0, "0");
        CHECKS.duePlace(name, work, -1, "0");
        for (int b = 0; b < 8; b++) {
            CHECKS.due(name + " box(" + b + ")", work.box(b), 1);
            CHECKS.due(name + " boxed(" + b + ")", work.boxed(b), 0);
            CHECKS.due(name + " same(" + b + ", 0)", work.same(b, 0), 1);
        }
        CHECKS.due(name + " out(0)", work.out(0), OUTSIDE);
        CHECKS.due(name + " count(0)", work.count(0), 0);
        CHECKS.due(name + " count(1)", work.count(1), 0);
        CHECKS.due(name + " count(2)", work.count(2), runs);
        CHECKS.due(name + " told(0, 0)", work.told(0, 0), UNKNOWN);
        CHECKS.due(name + " run(0, 1)", work.run(0, 1), UNKNOWN);
        CHECKS.due(name + " act(3, 0, 0, 0)", work.act(3, 0, 0, 0), UNKNOWN);
    }

    /** For each KIND what a, b, c are: x an ACT, s a SLOT, b a BOX, f a FAILURE, n a number of 25, - free. */
    private static final String[] SHAPES = {"---", "s--", "---", "xx-", "xsx", "xx-", "xx-", "xx-", "xx-", "xx-",
        "x--", "x--", "x--", "x--", "x--", "xx-", "xxx", "x--", "xx-", "xxx", "x--", "xfx", "xx-", "xxx", "xx-",
        "nx-", "x--", "x--", "x--", "x--", "b--", "bx-"};

    private static int most(char shape) {
        switch (shape) {
            case 'x': return 0;
            case 's': case 'b': return 7;
            case 'f': return 8;
            case 'n': return 59;
            default: return Integer.MAX_VALUE;
        }
    }

    private static void refusals() {
        for (int kind = 0; kind < SHAPES.length; kind++) {
            for (int i = 0; i < 3; i++) {
                char shape = SHAPES[kind].charAt(i);
                int refusal = shape == 'x' ? UNKNOWN : OUTSIDE;
                int most = most(shape);
                tryNumber(kind, i, most, 1);
                if (shape != '-') {
                    tryNumber(kind, i, -1, refusal);
                    tryNumber(kind, i, most + 1, refusal);
                    tryNumber(kind, i, Integer.MIN_VALUE, refusal);
                    tryNumber(kind, i, Integer.MAX_VALUE, refusal);
                }
            }
        }
        SideWork work = new SideWork();
        for (int kind : new int[] {-1, 32, Integer.MIN_VALUE, Integer.MAX_VALUE}) {
            CHECKS.due("act(" + kind + ", 0, 0, 0)", work.act(kind, 0, 0, 0), OUTSIDE);
        }
        CHECKS.due("nothing changes", work.count(0), 0);
    }

    /** One ACT is there, the WHOLE 5; one of a, b, c of the next is the number. */
    private static void tryNumber(int kind, int i, int number, int due) {
        SideWork work = new SideWork();
        work.act(0, 5, 0, 0);
        int[] given = {0, 0, 0};
        given[i] = number;
        CHECKS.due("KIND " + kind + ", " + "abc".charAt(i) + " = " + number,
                work.act(kind, given[0], given[1], given[2]), due);
        CHECKS.due("then ACTS", work.count(0), due == 1 ? 2 : 1);
    }

    private static void whatAKindDoesNotHave() {
        for (int kind = 0; kind < SHAPES.length; kind++) {
            for (int free : new int[] {-1, 1000, Integer.MIN_VALUE, Integer.MAX_VALUE}) {
                SideWork work = new SideWork();
                work.act(0, 5, 0, 0);
                int[] given = new int[3];
                for (int i = 0; i < 3; i++) {
                    given[i] = SHAPES[kind].charAt(i) == '-' ? free : 0;
                }
                CHECKS.due("KIND " + kind + " with " + free, work.act(kind, given[0], given[1], given[2]), 1);
                CHECKS.due("its KIND", work.told(1, 0), kind);
                for (int i = 0; i < 3; i++) {
                    CHECKS.due("its " + "abc".charAt(i), work.told(1, i + 1), given[i]);
                }
            }
        }
    }

    private static void firstCodeThatFits() {
        SideWork work = new SideWork();
        CHECKS.due("the ACT itself", work.act(13, 0, 0, 0), UNKNOWN);
        work.act(0, 5, 0, 0);
        CHECKS.due("KIND and x wrong", work.act(32, 9, 9, 9), OUTSIDE);
        CHECKS.due("SLOT and x wrong", work.act(4, 9, 9, 0), UNKNOWN);
        CHECKS.due("SLOT and z wrong", work.act(4, 0, 8, 1), UNKNOWN);
        CHECKS.due("FAILURE and z wrong", work.act(21, 0, 9, 1), UNKNOWN);
        CHECKS.due("number and x wrong", work.act(25, 60, 1, 0), UNKNOWN);
        CHECKS.due("BOX and x wrong", work.act(31, 8, 1, 0), UNKNOWN);
        CHECKS.due("told, both wrong", work.told(1, 4), UNKNOWN);
        CHECKS.due("run, both wrong", work.run(1, 0), UNKNOWN);
    }

    private static void room() {
        SideWork work = new SideWork();
        for (int i = 0; i < 60; i++) {
            CHECKS.due("ACT", work.act(0, i, 0, 0), i);
        }
        CHECKS.due("a 61st", work.act(0, 0, 0, 0), ROOM);
        CHECKS.due("a 61st with a wrong SLOT", work.act(1, 8, 0, 0), OUTSIDE);
        CHECKS.due("a 61st with a wrong x", work.act(13, 60, 0, 0), UNKNOWN);
        CHECKS.due("a 61st of a wrong KIND", work.act(32, 0, 0, 0), OUTSIDE);
        CHECKS.due("ACTS", work.count(0), 60);
        CHECKS.due("the last one", work.told(59, 1), 59);
    }

    private static void told() {
        SideWork work = new SideWork();
        work.act(0, 11, 12, 13);
        work.act(21, 0, 8, 0);
        CHECKS.due("told(0, 0)", work.told(0, 0), 0);
        CHECKS.due("told(0, 1)", work.told(0, 1), 11);
        CHECKS.due("told(0, 2)", work.told(0, 2), 12);
        CHECKS.due("told(0, 3)", work.told(0, 3), 13);
        CHECKS.due("told(1, 0)", work.told(1, 0), 21);
        CHECKS.due("told(1, 2)", work.told(1, 2), 8);
        for (int wrong : new int[] {-1, 2, Integer.MIN_VALUE, Integer.MAX_VALUE}) {
            CHECKS.due("told(" + wrong + ", 0)", work.told(wrong, 0), UNKNOWN);
        }
        for (int wrong : new int[] {-1, 4, Integer.MIN_VALUE, Integer.MAX_VALUE}) {
            CHECKS.due("told(0, " + wrong + ")", work.told(0, wrong), OUTSIDE);
        }
    }

    private static void countAndClear() {
        Builder b = new Builder();
        int seven = b.whole(7);
        b.then(b.toBox(3, b.tell(seven)), b.fail(seven));
        b.work.run(b.work.count(0) - 1, 50);
        CHECKS.due("count(0)", b.work.count(0), 5);
        CHECKS.due("count(1)", b.work.count(1), 1);
        CHECKS.due("count(2)", b.work.count(2), 1);
        CHECKS.due("box(3)", b.work.box(3), 0);
        for (int wrong : new int[] {-1, 3, Integer.MIN_VALUE, Integer.MAX_VALUE}) {
            CHECKS.due("count(" + wrong + ")", b.work.count(wrong), OUTSIDE);
        }
        b.work.run(99, 50);
        b.work.run(0, 0);
        CHECKS.due("refused RUNS don't count", b.work.count(2), 1);
        CHECKS.due("refused RUNS change nothing", b.work.ended(1), 7);
        CHECKS.due("clear()", b.work.clear(), 5);
        newObject("cleared", b.work, 1);
        CHECKS.due("clear() again", b.work.clear(), 0);
        b.row(b.whole(2));
        CHECKS.due("run(1)", b.work.run(1, 50), 2);
        CHECKS.due("RUNS go on", b.work.count(2), 2);
        b.work.clear();
        newObject("cleared after a ROW", b.work, 2);
    }
}
