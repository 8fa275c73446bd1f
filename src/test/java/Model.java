import java.util.ArrayList;
import java.util.IdentityHashMap;
import java.util.List;
import java.util.Map;

/** A second telling of the document, by recursion, objects and exceptions, to compare SideWork with. */
final class Model {
    /** For each KIND what a, b, c are: x an ACT, s a SLOT or BOX, f a FAILURE, n the number of 25, - free. */
    private static final String[] SHAPES = {"---", "s--", "---", "xx-", "xsx", "xx-", "xx-", "xx-", "xx-", "xx-",
        "x--", "x--", "x--", "x--", "x--", "xx-", "xxx", "x--", "xx-", "xxx", "x--", "xfx", "xx-", "xxx", "xx-",
        "nx-", "x--", "x--", "x--", "x--", "s--", "sx-"};

    private static final class Row {
        final int sort;
        Object[] places;
        Row(int sort, int length) {
            this.sort = sort;
            places = new Object[length];
            if (sort == 2) {
                java.util.Arrays.fill(places, 0);
            }
        }
    }

    private static final class Link {
        final boolean marked;
        final Object first;
        Object held;
        Link(boolean marked, Object held) {
            this.marked = marked;
            this.first = held;
            this.held = held;
        }
    }

    private static final class Later {
        final int act;
        final Object[] frame;
        String state = "fresh";
        Object value;
        Failure failure;
        Later(int act, Object[] frame) {
            this.act = act;
            this.frame = frame;
        }
    }

    private static class Failure extends Exception {
        private static final long serialVersionUID = 1;
        final int kind;
        final int code;
        final int at;
        Failure(int kind, int code, int at) {
            this.kind = kind;
            this.code = code;
            this.at = at;
        }
    }

    private static final class End extends RuntimeException {
        private static final long serialVersionUID = 1;
        final int by;
        final int at;
        End(int by, int at) {
            this.by = by;
            this.at = at;
        }
    }

    private final List<int[]> acts = new ArrayList<>();
    private final List<Integer> told = new ArrayList<>();
    private final List<Object> things = new ArrayList<>();
    private Object[] boxes = new Object[8];
    private int runs = 0;
    private int may = 0;
    private int calls = 0;
    private Object value = null;
    private int[] ended = {0, 0, -1, 0, 0};

    int act(int kind, int a, int b, int c) {
        if (kind < 0 || kind > 31) {
            return -102;
        }
        int[] given = {kind, a, b, c};
        for (int i = 0; i < 3; i++) {
            if (SHAPES[kind].charAt(i) == 'x' && (given[i + 1] < 0 || given[i + 1] >= acts.size())) {
                return -101;
            }
        }
        for (int i = 0; i < 3; i++) {
            char shape = SHAPES[kind].charAt(i);
            int most = shape == 's' ? 7 : shape == 'f' ? 8 : 59;
            if ("sfn".indexOf(shape) >= 0 && (given[i + 1] < 0 || given[i + 1] > most)) {
                return -102;
            }
        }
        if (acts.size() == 60) {
            return -104;
        }
        acts.add(given);
        return acts.size() - 1;
    }

    int told(int act, int what) {
        if (act < 0 || act >= acts.size()) {
            return -101;
        }
        return what < 0 || what > 3 ? -102 : acts.get(act)[what];
    }

    int run(int act, int steps) {
        if (act < 0 || act >= acts.size()) {
            return -101;
        }
        if (steps < 1 || steps > 200) {
            return -102;
        }
        if (runs == 400) {
            return -104;
        }
        runs++;
        forget();
        may = steps;
        try {
            value = perform(act, new Object[8]);
            return sortOf(value);
        } catch (Failure failure) {
            ended[0] = failure.kind;
            ended[1] = failure.code;
            ended[2] = failure.at;
        } catch (End end) {
            ended[0] = end.by;
            ended[2] = end.at;
        }
        return -10 - ended[0];
    }

    private void forget() {
        boxes = new Object[8];
        told.clear();
        things.clear();
        calls = 0;
        value = null;
        ended = new int[] {0, 0, -1, 0, 0};
    }

    private static int sortOf(Object v) {
        if (v == null) {
            return 1;
        }
        if (v instanceof Integer) {
            return 0;
        }
        if (v instanceof Row) {
            return ((Row) v).sort;
        }
        if (v instanceof Link) {
            return ((Link) v).marked ? 6 : 5;
        }
        return 7;
    }

    private static boolean alike(Object v, Object w) {
        return v instanceof Integer && w instanceof Integer ? v.equals(w) : v == w;
    }

    private void step(int act) {
        if (ended[3] == may) {
            throw new End(9, act);
        }
        ended[3]++;
    }

    private Failure failure(int kind, int code, int at) {
        ended[4]++;
        if (ended[4] == 21) {
            throw new End(10, at);
        }
        return new Failure(kind, code, at);
    }

    private Failure failure(int kind, int at) {
        return failure(kind, kind, at);
    }

    private int whole(Object v, int at) throws Failure {
        if (v == null) {
            throw failure(1, at);
        }
        if (!(v instanceof Integer)) {
            throw failure(4, at);
        }
        return (Integer) v;
    }

    private Row row(Object v, int at) throws Failure {
        if (v != null && !(v instanceof Row)) {
            throw failure(4, at);
        }
        if (v == null) {
            throw failure(1, at);
        }
        return (Row) v;
    }

    private Link link(Object v, int at) throws Failure {
        if (v != null && !(v instanceof Link)) {
            throw failure(4, at);
        }
        if (v == null) {
            throw failure(1, at);
        }
        return (Link) v;
    }

    private Object perform(int n, Object[] frame) throws Failure {
        step(n);
        int[] act = acts.get(n);
        int kind = act[0], a = act[1], b = act[2], c = act[3];
        switch (kind) {
            case 0: return a;
            case 1: return frame[a];
            case 2: return null;
            case 3: perform(a, frame); return perform(b, frame);
            case 4: frame[b] = perform(a, frame); return perform(c, frame);
            case 21:
                try {
                    return perform(a, frame);
                } catch (Failure f) {
                    if (b != 0 && b != f.kind) {
                        throw f;
                    }
                    frame[7] = f.code;
                }
                return perform(c, frame);
            case 22: return always(a, b, frame);
            case 23: return perform(whole(perform(a, frame), n) != 0 ? b : c, frame);
            case 24:
                while (whole(perform(a, frame), n) != 0) {
                    perform(b, frame);
                    step(n);
                }
                return null;
            case 25: return call(n, a, perform(b, frame));
            case 26: {
                int x = whole(perform(a, frame), n);
                if (told.size() < 40) {
                    told.add(x);
                }
                return x;
            }
            case 27: return new Later(a, frame);
            case 28: return force(n, perform(a, frame));
            case 29: return attempt(a, frame);
            case 30: return boxes[a];
            case 31: {
                // an attempt in x may lay the BOXES anew
                Object x = perform(b, frame);
                boxes[a] = x;
                return x;
            }
            default: break;
        }
        Object x = perform(a, frame);
        Object y = SHAPES[kind].charAt(1) == 'x' ? perform(b, frame) : null;
        Object z = SHAPES[kind].charAt(2) == 'x' ? perform(c, frame) : null;
        return strict(n, kind, x, y, z);
    }

    private Object always(int a, int b, Object[] frame) throws Failure {
        Object v;
        try {
            v = perform(a, frame);
        } catch (Failure f) {
            perform(b, frame);
            throw f;
        }
        perform(b, frame);
        return v;
    }

    private Object call(int n, int number, Object x) throws Failure {
        if (number >= acts.size()) {
            return null;
        }
        if (calls == 8) {
            throw new End(11, n);
        }
        calls++;
        try {
            Object[] frame = new Object[8];
            frame[0] = x;
            return perform(number, frame);
        } finally {
            calls--;
        }
    }

    private Object force(int n, Object x) throws Failure {
        if (x == null) {
            throw failure(1, n);
        }
        if (!(x instanceof Later)) {
            throw failure(4, n);
        }
        Later later = (Later) x;
        if (later.state.equals("working")) {
            throw failure(8, n);
        }
        if (later.state.equals("failed")) {
            throw failure(later.failure.kind, later.failure.code, n);
        }
        if (later.state.equals("fresh")) {
            later.state = "working";
            try {
                later.value = perform(later.act, later.frame);
                later.state = "done";
            } catch (Failure f) {
                later.failure = f;
                later.state = "failed";
                throw f;
            }
        }
        return later.value;
    }

    private Object attempt(int a, Object[] frame) throws Failure {
        Map<Object, Object> before = new IdentityHashMap<>();
        for (Object thing : things) {
            before.put(thing, thing instanceof Row ? ((Row) thing).places.clone() : ((Link) thing).held);
        }
        Object[] boxesBefore = boxes.clone();
        boolean through = false;
        try {
            Object v = perform(a, frame);
            through = true;
            return v;
        } finally {
            if (!through) {
                boxes = boxesBefore;
                for (Object thing : things) {
                    restore(thing, before);
                }
            }
        }
    }

    private static void restore(Object thing, Map<Object, Object> before) {
        if (thing instanceof Row) {
            Row row = (Row) thing;
            row.places = before.containsKey(row) ? (Object[]) before.get(row) : new Row(row.sort, row.places.length).places;
        } else {
            Link link = (Link) thing;
            link.held = before.containsKey(link) ? before.get(link) : link.first;
        }
    }

    private <T> T made(T thing) {
        things.add(thing);
        return thing;
    }

    private Object strict(int n, int kind, Object x, Object y, Object z) throws Failure {
        switch (kind) {
            case 5: return whole(x, n) + whole(y, n);
            case 6: return whole(x, n) * whole(y, n);
            case 7: {
                int left = whole(x, n), right = whole(y, n);
                if (right == 0) {
                    throw failure(6, n);
                }
                return left / right;
            }
            case 8: return whole(x, n) < whole(y, n) ? 1 : 0;
            case 9: return alike(x, y) ? 1 : 0;
            case 10: case 11: case 12: {
                int length = whole(x, n);
                if (length < 0) {
                    throw failure(3, n);
                }
                if (length > 16) {
                    throw new End(12, n);
                }
                return made(new Row(kind - 8, length));
            }
            case 13: case 14: return made(new Link(kind == 14, x));
            case 15: {
                int i = whole(y, n);
                Row row = row(x, n);
                if (i < 0 || i >= row.places.length) {
                    throw failure(2, n);
                }
                return row.places[i];
            }
            case 16: return write(n, x, y, z);
            case 17: return link(x, n).held;
            case 18: return link(x, n).held = y;
            case 19: return copy(n, x, y, z);
            case 20: throw failure(7, whole(x, n), n);
            default: throw new IllegalStateException("kind " + kind);
        }
    }

    private Object write(int n, Object x, Object y, Object z) throws Failure {
        int i = whole(y, n);
        if (x instanceof Row && ((Row) x).sort != 2) {
            if (z != null && !(z instanceof Link)) {
                throw failure(4, n);
            }
        } else {
            whole(z, n);
        }
        Row row = row(x, n);
        if (i < 0 || i >= row.places.length) {
            throw failure(2, n);
        }
        if (row.sort == 4 && sortOf(z) == 5) {
            throw failure(5, n);
        }
        return row.places[i] = z;
    }

    private Object copy(int n, Object x, Object y, Object z) throws Failure {
        int many = whole(z, n);
        if (x == null || y == null) {
            throw failure(1, n);
        }
        if (!(x instanceof Row) || !(y instanceof Row) || (((Row) x).sort == 2) != (((Row) y).sort == 2)) {
            throw failure(5, n);
        }
        Object[] from = ((Row) x).places, to = ((Row) y).places;
        if (many < 0 || many > from.length || many > to.length) {
            throw failure(2, n);
        }
        for (int i = 0; i < many; i++) {
            if (((Row) y).sort == 4 && sortOf(from[i]) == 5) {
                throw failure(5, n);
            }
            to[i] = from[i];
        }
        return many;
    }

    int ended(int what) {
        return what < 0 || what > 4 ? -102 : ended[what];
    }

    private static int measure(Object v) {
        return v instanceof Integer ? (Integer) v : v instanceof Row ? ((Row) v).places.length : 0;
    }

    int gave() {
        return measure(value);
    }

    /** As Checks.placeOf tells it. */
    String place(int i) {
        if (!(value instanceof Row)) {
            return "0";
        }
        Row row = (Row) value;
        if (i < 0 || i >= row.places.length) {
            return "throws";
        }
        Object v = row.places[i];
        return String.valueOf(v == null ? 0 : v instanceof Integer ? (Integer) v : ((Link) v).marked ? 2 : 1);
    }

    int box(int b) {
        return b < 0 || b > 7 ? -102 : sortOf(boxes[b]);
    }

    int boxed(int b) {
        return b < 0 || b > 7 ? 0 : measure(boxes[b]);
    }

    int same(int b, int c) {
        return b < 0 || b > 7 || c < 0 || c > 7 ? -102 : alike(boxes[b], boxes[c]) ? 1 : 0;
    }

    int out(int i) {
        return i < 0 || i >= told.size() ? -102 : told.get(i);
    }

    int count(int what) {
        return what == 0 ? acts.size() : what == 1 ? told.size() : what == 2 ? runs : -102;
    }

    int clear() {
        int were = acts.size();
        acts.clear();
        forget();
        return were;
    }
}
