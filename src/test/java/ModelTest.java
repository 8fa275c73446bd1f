import java.util.ArrayList;
import java.util.List;
import java.util.Random;
import java.util.TreeMap;

/** Random programs, and random calls, on SideWork and on the Model: both answer alike. */
public final class ModelTest {
    private static final Checks CHECKS = new Checks("ModelTest");
    private static final int PROGRAMS = 6000;
    /** How often the RUNS answered what. */
    private static final TreeMap<Integer, Integer> ANSWERS = new TreeMap<>();
    /** What each KIND mostly gives: a WHOLE, a row, a link, a later, or ? any. */
    private static final String GIVES = "w?n??wwwwwrrrll?????n???n?wt????";
    /** What each KIND mostly wants of x, y, z. */
    private static final String[] WANTS = {"", "", "", "??", "??", "ww", "ww", "ww", "ww", "??", "w", "w", "w", "?",
        "?", "rw", "rw?", "l", "l?", "rrw", "w", "??", "??", "w??", "w?", "?", "w", "?", "t", "?", "", "?"};
    private static final int[] WHOLES = {0, 0, 1, 1, 2, 2, 3, 3, 4, 5, 16, 17, -1, Integer.MAX_VALUE, Integer.MIN_VALUE};

    private final Random random;
    private final String name;
    /** KIND, a, b, c of each ACT that was tried, so that new objects can have them, too. */
    private final List<int[]> tried = new ArrayList<>();
    private SideWork work = new SideWork();
    private Model model = new Model();

    private ModelTest(int seed) {
        random = new Random(seed);
        name = "program " + seed;
    }

    public static void main(String[] args) {
        for (int seed = 0; seed < PROGRAMS; seed++) {
            ModelTest test = new ModelTest(seed);
            test.build(3 + test.random.nextInt(60));
            test.runAll();
            for (int i = 0; i < 10 && seed % 50 == 0; i++) {
                test.renew();
                test.strayCalls();
            }
        }
        for (int answer = -22; answer <= 7; answer++) {
            if (answer < -10 || answer >= 0) {
                CHECKS.due("some RUN answers " + answer + " among " + ANSWERS, ANSWERS.containsKey(answer) ? 1 : 0, 1);
            }
        }
        CHECKS.finish();
    }

    private void build(int many) {
        for (int i = 0; i < many; i++) {
            int size = model.count(0);
            int kind = size == 0 ? 0 : random.nextInt(5) == 0 ? random.nextInt(3) : random.nextInt(32);
            act(kind, size);
            if (size > 0 && random.nextInt(12) == 0) {
                gadget();
            }
        }
    }

    /** What random ACTS seldom come to by themselves, round the latest ones. */
    private void gadget() {
        int last = model.count(0) - 1;
        int other = recent(last + 1);
        int slot = random.nextInt(2);
        switch (random.nextInt(5)) {
            case 0: // a LATER that is worked in itself, with something about it
                plainAct(1, slot, 0, 0);
                plainAct(28, last + 1, 0, 0);
                plainAct(random.nextInt(2) == 0 ? 22 : 3, last + 2, other, 0);
                plainAct(27, last + 2 + random.nextInt(2), 0, 0);
                plainAct(4, last + 4, slot, last + 2);
                break;
            case 1: // what FAILS, again and again
                plainAct(21, last, 0, other);
                plainAct(0, 1, 0, 0);
                plainAct(24, last + 2, last + 1, 0);
                break;
            case 2: // a LATER that is worked again, where it FAILED
                plainAct(27, last, 0, 0);
                plainAct(1, slot, 0, 0);
                plainAct(28, last + 2, 0, 0);
                plainAct(21, last + 3, 0, last + 3);
                plainAct(4, last + 1, slot, last + 4);
                break;
            case 3: // an attempt that FAILS, and what is left
                plainAct(20, recent(last + 1), 0, 0);
                plainAct(3, last, last + 1, 0);
                plainAct(29, last + 2, 0, 0);
                plainAct(21, last + 3, 0, other);
                break;
            default: // a number counted down
                plainAct(1, slot, 0, 0);
                plainAct(0, -1, 0, 0);
                plainAct(5, last + 1, last + 2, 0);
                plainAct(4, last + 3, slot, last);
                plainAct(24, last + 1, last + 4, 0);
                plainAct(0, 3, 0, 0);
                plainAct(4, last + 6, slot, last + 5);
                break;
        }
    }

    private void act(int kind, int size) {
        int[] given = {random.nextInt(8), random.nextInt(8), random.nextInt(8)};
        if (kind == 0) {
            given[0] = WHOLES[random.nextInt(WHOLES.length)];
        }
        if (kind == 1 || kind == 4) {
            // few SLOTS, so that what is kept is found again
            given[kind == 1 ? 0 : 1] = random.nextInt(4) == 0 ? 7 : random.nextInt(2);
        }
        if (kind == 30 || kind == 31) {
            given[0] = random.nextInt(3);
        }
        int x = pick(kind, 0, size), y = pick(kind, 1, size), z = pick(kind, 2, size);
        switch (kind) {
            case 0: case 1: case 2: case 30: break;
            case 4: given[0] = x; given[2] = y; break;
            case 21: given[0] = x; given[1] = random.nextInt(3) == 0 ? random.nextInt(9) : 0; given[2] = y; break;
            case 25: given[0] = random.nextInt(size + 3) % 60; given[1] = x; break;
            case 31: given[1] = x; break;
            default: given[0] = x; given[1] = y; given[2] = z; break;
        }
        plainAct(kind, given[0], given[1], given[2]);
    }

    private void plainAct(int kind, int a, int b, int c) {
        tried.add(new int[] {kind, a, b, c});
        due("act(" + kind + ", " + a + ", " + b + ", " + c + ")", work.act(kind, a, b, c), model.act(kind, a, b, c));
    }

    /** An ACT that likely gives what is wanted there. */
    private int pick(int kind, int part, int size) {
        if (size == 0) {
            return 0;
        }
        int act = recent(size);
        if (part >= WANTS[kind].length() || WANTS[kind].charAt(part) == '?') {
            return act;
        }
        char wanted = WANTS[kind].charAt(part);
        for (int i = 0; i < 12; i++) {
            char gives = GIVES.charAt(model.told(act, 0));
            if (gives == wanted || (gives == '?' && random.nextInt(3) == 0)) {
                return act;
            }
            act = recent(size);
        }
        return act;
    }

    private int recent(int size) {
        return random.nextInt(3) == 0 ? random.nextInt(size) : size - 1 - random.nextInt(Math.min(size, 8));
    }

    /** New objects with the same ACTS, as none is used for more than 512 calls. */
    private void renew() {
        work = new SideWork();
        model = new Model();
        for (int[] given : tried) {
            due("act again", work.act(given[0], given[1], given[2], given[3]),
                    model.act(given[0], given[1], given[2], given[3]));
        }
    }

    private void runAll() {
        for (int i = 0; i < 25; i++) {
            if (i % 4 == 0) {
                renew();
            }
            int size = model.count(0);
            int act = i < 10 && i < size ? size - 1 - i : random.nextInt(size);
            int steps = random.nextInt(3) == 0 ? 1 + random.nextInt(200) : 200;
            int due = model.run(act, steps);
            ANSWERS.merge(due, 1, Integer::sum);
            due("run(" + act + ", " + steps + ")", work.run(act, steps), due);
            look();
        }
    }

    private void look() {
        for (int what = 0; what < 5; what++) {
            due("ended(" + what + ")", work.ended(what), model.ended(what));
        }
        due("gave()", work.gave(), model.gave());
        for (int i = -1; i < 18; i++) {
            CHECKS.duePlace(name, work, i, model.place(i));
        }
        for (int b = 0; b < 8; b++) {
            due("box(" + b + ")", work.box(b), model.box(b));
            due("boxed(" + b + ")", work.boxed(b), model.boxed(b));
            due("same(" + b + ", 1)", work.same(b, 1), model.same(b, 1));
        }
        for (int i = 0; i < 41; i++) {
            due("out(" + i + ")", work.out(i), model.out(i));
        }
        for (int what = -1; what < 4; what++) {
            due("count(" + what + ")", work.count(what), model.count(what));
        }
    }

    private int stray() {
        switch (random.nextInt(8)) {
            case 0: return Integer.MIN_VALUE;
            case 1: return Integer.MAX_VALUE;
            case 2: return -1;
            default: return random.nextInt(70) - 3;
        }
    }

    private void strayCalls() {
        for (int i = 0; i < 300; i++) {
            int p = stray(), q = stray(), r = stray(), s = stray();
            switch (random.nextInt(12)) {
                case 0: due("act", work.act(p, q, r, s), model.act(p, q, r, s)); break;
                case 1: due("told", work.told(p, q), model.told(p, q)); break;
                case 2: due("run", work.run(p, q), model.run(p, q)); break;
                case 3: due("ended", work.ended(p), model.ended(p)); break;
                case 4: due("gave", work.gave(), model.gave()); break;
                case 5: CHECKS.duePlace(name, work, p, model.place(p)); break;
                case 6: due("box", work.box(p), model.box(p)); break;
                case 7: due("boxed", work.boxed(p), model.boxed(p)); break;
                case 8: due("same", work.same(p, q), model.same(p, q)); break;
                case 9: due("out", work.out(p), model.out(p)); break;
                case 10: due("count", work.count(p), model.count(p)); break;
                default:
                    if (random.nextInt(40) == 0) {
                        due("clear", work.clear(), model.clear());
                    }
                    break;
            }
        }
        look();
    }

    private void due(String call, int got, int want) {
        CHECKS.due(name + ": " + call, got, want);
    }
}
