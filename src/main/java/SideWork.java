/** Work with side effects, built as ACTS and done only when one of them RUNS. */
public final class SideWork {
    public static final int UNKNOWN = -101, OUTSIDE = -102, ROOM = -104;

    private static final int MOST_RUNS = 400;
    private static final int MOST_STEPS = 200;

    private final Acts acts;
    private final Machine machine;
    private int runs;

    public SideWork() {
        acts = new Acts();
        machine = new Machine(acts);
        runs = 0;
    }

    public int act(int kind, int a, int b, int c) {
        int refusal = acts.refusalOf(kind, a, b, c);
        return refusal != 0 ? refusal : acts.add(kind, a, b, c);
    }

    public int told(int act, int what) {
        if (!acts.has(act)) {
            return UNKNOWN;
        }
        return what < 0 || what > 3 ? OUTSIDE : acts.given(act, what);
    }

    public int run(int act, int steps) {
        if (!acts.has(act)) {
            return UNKNOWN;
        }
        if (steps < 1 || steps > MOST_STEPS) {
            return OUTSIDE;
        }
        if (runs >= MOST_RUNS) {
            return ROOM;
        }
        runs++;
        machine.perform(act, steps);
        Course course = machine.course;
        return course.ending == 0 ? Value.sort(course.value) : -10 - course.ending;
    }

    public int ended(int what) {
        Course course = machine.course;
        switch (what) {
            case 0: return course.ending;
            case 1: return course.code;
            case 2: return course.at;
            case 3: return course.steps;
            case 4: return course.failures;
            default: return OUTSIDE;
        }
    }

    public int gave() {
        return machine.memory.measure(machine.course.value);
    }

    public int place(int i) throws ArrayIndexOutOfBoundsException {
        long row = machine.course.value;
        if (!Value.isRow(row)) {
            return 0;
        }
        if (i < 0 || i >= machine.memory.lengthOf(row)) {
            throw new ArrayIndexOutOfBoundsException("it has no such place");
        }
        long held = machine.memory.read(Memory.cellOf(row, i));
        switch (Value.sort(held)) {
            case Value.WHOLE: return Value.number(held);
            case Value.LINK: return 1;
            case Value.MARKED_LINK: return 2;
            default: return 0;
        }
    }

    public int box(int b) {
        return Memory.isBox(b) ? Value.sort(machine.memory.read(b)) : OUTSIDE;
    }

    public int boxed(int b) {
        return Memory.isBox(b) ? machine.memory.measure(machine.memory.read(b)) : 0;
    }

    public int same(int b, int c) {
        if (!Memory.isBox(b) || !Memory.isBox(c)) {
            return OUTSIDE;
        }
        return machine.memory.read(b) == machine.memory.read(c) ? 1 : 0;
    }

    public int out(int i) {
        return i < 0 || i >= machine.outSize ? OUTSIDE : machine.outRow[i];
    }

    public int count(int what) {
        switch (what) {
            case 0: return acts.size;
            case 1: return machine.outSize;
            case 2: return runs;
            default: return OUTSIDE;
        }
    }

    public int clear() {
        int were = acts.size;
        acts.size = 0;
        machine.restart(0);
        return were;
    }

    /** The KINDS of ACTS. */
    private static final class Kind {
        static final int WHOLE = 0, SLOT = 1, NOTHING = 2, THEN = 3, KEEP = 4;
        static final int PLUS = 5, TIMES = 6, DIVIDED = 7, BELOW = 8, ALIKE = 9;
        static final int NEW_ROW = 10, NEW_LINKS = 11, NEW_MARKED_ROW = 12, NEW_LINK = 13, NEW_MARKED_LINK = 14;
        static final int READ = 15, WRITE = 16, HELD = 17, HOLD = 18, COPY = 19;
        static final int FAIL = 20, CATCH = 21, ALWAYS = 22, CHOOSE = 23, LOOP = 24, CALL = 25, TELL = 26;
        static final int DELAY = 27, FORCE = 28, ATTEMPT = 29, FROM_BOX = 30, TO_BOX = 31;
    }

    /**
     * A VALUE is a long: its sort in the upper half; below it its WHOLE, the cell of the memory where
     * it lies, or the number of a LATER. So two VALUES are the same just if their longs are, and a RUN
     * makes no objects.
     */
    private static final class Value {
        static final int WHOLE = 0, NOTHING = 1, ROW = 2, LINKS = 3, MARKED_ROW = 4;
        static final int LINK = 5, MARKED_LINK = 6, LATER = 7;
        static final long NONE = 1L << 32;

        static long of(int sort, int number) {
            return ((long) sort << 32) | (number & 0xFFFFFFFFL);
        }

        static long whole(int number) {
            return number & 0xFFFFFFFFL;
        }

        static long truth(boolean is) {
            return is ? 1L : 0L;
        }

        static int sort(long value) {
            return (int) (value >> 32);
        }

        static int number(long value) {
            return (int) value;
        }

        static boolean isRow(long value) {
            int sort = sort(value);
            return sort == ROW || sort == LINKS || sort == MARKED_ROW;
        }

        static boolean isRowForLinks(long value) {
            int sort = sort(value);
            return sort == LINKS || sort == MARKED_ROW;
        }

        static boolean isLink(long value) {
            int sort = sort(value);
            return sort == LINK || sort == MARKED_LINK;
        }

        static boolean isLinkOrNothing(long value) {
            int sort = sort(value);
            return sort == LINK || sort == MARKED_LINK || sort == NOTHING;
        }

        /** Whether it is a LINK that this row must not hold, as it is not MARKED. */
        static boolean isStrange(long row, long value) {
            return sort(row) == MARKED_ROW && sort(value) == LINK;
        }
    }

    /** The ACTS that were made, and what the numbers of each KIND mean. */
    private static final class Acts {
        static final int MOST = 60;

        /** A PART is done ahead of the work; an OPTION is an ACT, too, but begins by the work, if at all. */
        private static final int FREE = 0, PART = 1, OPTION = 2, SLOT = 3, BOX = 4, FAILURE = 5, NUMBER = 6;

        /** The greatest number by meaning; what is FREE or an ACT is looked at otherwise. */
        private static final int[] GREATEST = {0, 0, 0, 7, 7, 8, 59};

        /** What a, b and c of each KIND are. */
        private static final int[] MEANINGS = {
            FREE, FREE, FREE, // 0 the WHOLE a
            SLOT, FREE, FREE, // 1
            FREE, FREE, FREE, // 2
            PART, PART, FREE, // 3
            PART, SLOT, OPTION, // 4 SLOT b gets x, then z
            PART, PART, FREE, // 5
            PART, PART, FREE, // 6
            PART, PART, FREE, // 7
            PART, PART, FREE, // 8
            PART, PART, FREE, // 9
            PART, FREE, FREE, // 10
            PART, FREE, FREE, // 11
            PART, FREE, FREE, // 12
            PART, FREE, FREE, // 13
            PART, FREE, FREE, // 14
            PART, PART, FREE, // 15
            PART, PART, PART, // 16
            PART, FREE, FREE, // 17
            PART, PART, FREE, // 18
            PART, PART, PART, // 19
            PART, FREE, FREE, // 20
            PART, FAILURE, OPTION, // 21 z if x FAILS by b
            PART, OPTION, FREE, // 22
            PART, OPTION, OPTION, // 23
            PART, OPTION, FREE, // 24
            NUMBER, PART, FREE, // 25 the ACT a, with x
            PART, FREE, FREE, // 26
            OPTION, FREE, FREE, // 27
            PART, FREE, FREE, // 28
            PART, FREE, FREE, // 29
            BOX, FREE, FREE, // 30
            BOX, PART, FREE, // 31 BOX a gets x
        };

        /** KIND, a, b, c of each ACT. */
        private final int[] givens;
        /** The ACTS among a, b, c of each ACT, moved together. */
        private final int[] parts;
        private final int[] aheads;
        int size;

        Acts() {
            givens = new int[4 * MOST];
            parts = new int[3 * MOST];
            aheads = new int[MOST];
            size = 0;
        }

        boolean has(int act) {
            return act >= 0 && act < size;
        }

        int given(int act, int what) {
            return has(act) && what >= 0 && what < 4 ? givens[4 * act + what] : 0;
        }

        int part(int act, int n) {
            return has(act) && n >= 0 && n < 3 ? parts[3 * act + n] : -1;
        }

        /** How many of its parts are done ahead of its work. */
        int partsAhead(int act) {
            return has(act) ? aheads[act] : 0;
        }

        /** The code that refuses such an ACT, or 0. */
        int refusalOf(int kind, int a, int b, int c) {
            if (kind < 0 || kind > Kind.TO_BOX) {
                return OUTSIDE;
            }
            int of = 3 * kind;
            if (isUnknown(MEANINGS[of], a) || isUnknown(MEANINGS[of + 1], b) || isUnknown(MEANINGS[of + 2], c)) {
                return UNKNOWN;
            }
            if (isOutside(MEANINGS[of], a) || isOutside(MEANINGS[of + 1], b) || isOutside(MEANINGS[of + 2], c)) {
                return OUTSIDE;
            }
            return size >= MOST ? ROOM : 0;
        }

        private boolean isUnknown(int meaning, int number) {
            return (meaning == PART || meaning == OPTION) && !has(number);
        }

        private boolean isOutside(int meaning, int number) {
            return meaning > OPTION && (number < 0 || number > GREATEST[meaning]);
        }

        /** Takes an ACT that nothing refuses: its number. */
        int add(int kind, int a, int b, int c) {
            int act = size;
            size++;
            givens[4 * act] = kind;
            givens[4 * act + 1] = a;
            givens[4 * act + 2] = b;
            givens[4 * act + 3] = c;
            sortParts(act, 3 * kind);
            return act;
        }

        private void sortParts(int act, int of) {
            int many = 0;
            int ahead = 0;
            for (int i = 0; i < 3; i++) {
                int meaning = MEANINGS[of + i];
                if (meaning == PART || meaning == OPTION) {
                    parts[3 * act + many] = givens[4 * act + 1 + i];
                    many++;
                }
                if (meaning == PART) {
                    ahead++;
                }
            }
            aheads[act] = ahead;
        }
    }

    /**
     * All that an attempt takes back: the BOXES, in the first cells, then what LINKS hold and the places
     * of rows, each row behind a cell with its length. Every change is kept, so that it can be undone.
     */
    private static final class Memory {
        private static final int BOXES = 8;
        private static final int LONGEST = 16;
        /**
         * So many cells a RUN can need, and so many it can change. A new row takes 2 STEPS at least, as a part
         * gives its length and so makes nothing itself; a copy does, too, as a part gives a row and so is no
         * copy itself. All else needs or changes one cell by a STEP at most.
         */
        private static final int MOST = (LONGEST + 1) * MOST_STEPS / 2;

        private final long[] cells;
        private final int[] changedCells;
        private final long[] changedFrom;
        private int used;
        private int changes;

        Memory() {
            cells = new long[BOXES + MOST];
            changedCells = new int[MOST];
            changedFrom = new long[MOST];
            restart();
        }

        static boolean isBox(int b) {
            return b >= 0 && b < BOXES;
        }

        static int cellOf(long row, int place) {
            return Value.number(row) + 1 + place;
        }

        void restart() {
            for (int b = 0; b < BOXES; b++) {
                cells[b] = Value.NONE;
            }
            used = BOXES;
            changes = 0;
        }

        long newRow(int sort, int length) {
            if (length < 0 || length > LONGEST || used + 1 + length > cells.length) {
                return Value.NONE;
            }
            int at = used;
            used += 1 + length;
            cells[at] = Value.whole(length);
            long empty = sort == Value.ROW ? Value.whole(0) : Value.NONE;
            for (int i = at + 1; i < used; i++) {
                cells[i] = empty;
            }
            return Value.of(sort, at);
        }

        long newLink(int sort, long held) {
            if (used >= cells.length) {
                return Value.NONE;
            }
            int at = used;
            used++;
            cells[at] = held;
            return Value.of(sort, at);
        }

        long read(int cell) {
            return cell >= 0 && cell < used ? cells[cell] : Value.NONE;
        }

        void write(int cell, long value) {
            if (cell < 0 || cell >= used || changes >= changedCells.length) {
                return;
            }
            changedCells[changes] = cell;
            changedFrom[changes] = cells[cell];
            changes++;
            cells[cell] = value;
        }

        /** Copies place by place, and stops at a LINK that the other row must not hold: whether it came through. */
        boolean copied(long from, long to, int length) {
            for (int i = 0; i < length; i++) {
                long value = read(cellOf(from, i));
                if (Value.isStrange(to, value)) {
                    return false;
                }
                write(cellOf(to, i), value);
            }
            return true;
        }

        int changesSoFar() {
            return changes;
        }

        void undoBackTo(int mark) {
            while (changes > mark && changes > 0) {
                changes--;
                cells[changedCells[changes]] = changedFrom[changes];
            }
        }

        int lengthOf(long row) {
            return Value.isRow(row) ? Value.number(read(Value.number(row))) : 0;
        }

        /** Its WHOLE, or how many places it has; 0 of others. */
        int measure(long value) {
            return Value.sort(value) == Value.WHOLE ? Value.number(value) : lengthOf(value);
        }
    }

    /** FRAMES of SLOTS; none is used twice in a RUN, as a LATER may still need it. */
    private static final class Frames {
        private static final int SLOTS = 8;
        /** That of the RUN, and those of 25: each of these begins two ACTS, so they are half of the STEPS at most. */
        private static final int MOST = 1 + MOST_STEPS / 2;

        private final long[] slots;
        private int made;

        Frames() {
            slots = new long[SLOTS * MOST];
            made = 0;
        }

        void restart() {
            made = 0;
        }

        /** A new FRAME: its number. */
        int open() {
            int frame = made < MOST ? made : MOST - 1;
            made = frame + 1;
            for (int i = SLOTS * frame; i < SLOTS * made; i++) {
                slots[i] = Value.NONE;
            }
            return frame;
        }

        long read(int frame, int slot) {
            return has(frame, slot) ? slots[SLOTS * frame + slot] : Value.NONE;
        }

        void write(int frame, int slot, long value) {
            if (has(frame, slot)) {
                slots[SLOTS * frame + slot] = value;
            }
        }

        private boolean has(int frame, int slot) {
            return frame >= 0 && frame < made && slot >= 0 && slot < SLOTS;
        }
    }

    /** What is worked later and once. */
    private static final class Laters {
        static final int FRESH = 0, AT_WORK = 1, DONE = 2, FAILED = 3;

        private final int[] acts;
        private final int[] frames;
        private final int[] states;
        private final int[] failures;
        private final int[] codes;
        private final long[] values;
        private int made;

        Laters() {
            acts = new int[MOST_STEPS];
            frames = new int[MOST_STEPS];
            states = new int[MOST_STEPS];
            failures = new int[MOST_STEPS];
            codes = new int[MOST_STEPS];
            values = new long[MOST_STEPS];
            made = 0;
        }

        void restart() {
            made = 0;
        }

        long add(int act, int frame) {
            if (made >= MOST_STEPS) {
                return Value.NONE;
            }
            int later = made;
            made++;
            acts[later] = act;
            frames[later] = frame;
            states[later] = FRESH;
            return Value.of(Value.LATER, later);
        }

        private boolean has(int later) {
            return later >= 0 && later < made;
        }

        int actOf(int later) {
            return has(later) ? acts[later] : -1;
        }

        int frameOf(int later) {
            return has(later) ? frames[later] : -1;
        }

        int stateOf(int later) {
            return has(later) ? states[later] : FRESH;
        }

        int failureOf(int later) {
            return has(later) ? failures[later] : 0;
        }

        int codeOf(int later) {
            return has(later) ? codes[later] : 0;
        }

        long valueOf(int later) {
            return has(later) ? values[later] : Value.NONE;
        }

        void setState(int later, int state) {
            if (has(later)) {
                states[later] = state;
            }
        }

        void finish(int later, long value) {
            if (has(later)) {
                states[later] = DONE;
                values[later] = value;
            }
        }

        void giveUp(int later, int failure, int code) {
            if (has(later)) {
                states[later] = FAILED;
                failures[later] = failure;
                codes[later] = code;
            }
        }
    }

    /** How a RUN goes, and how it ended. */
    private static final class Course {
        private static final int MOST_FAILURES = 20;

        private int limit;
        int steps;
        int failures;
        /** The FAILURE that goes on now, or what ended the RUN; 0: neither. */
        int ending;
        int code;
        int at;
        long value;

        Course() {
            restart(0);
        }

        void restart(int mayTake) {
            limit = mayTake;
            steps = 0;
            failures = 0;
            value = Value.NONE;
            settle();
        }

        void settle() {
            goOn(0, 0, -1);
        }

        /** What arose before goes on. */
        void goOn(int by, int itsCode, int act) {
            ending = by;
            code = itsCode;
            at = act;
        }

        void end(int by, int act) {
            goOn(by, 0, act);
        }

        void arise(int failure, int itsCode, int act) {
            failures++;
            boolean isMuch = failures > MOST_FAILURES;
            ending = isMuch ? Fault.MUCH : failure;
            code = isMuch ? 0 : itsCode;
            at = act;
        }

        /** Whether one more STEP may be taken; else the RUN ends at that ACT. */
        boolean takesStep(int act) {
            if (steps < limit) {
                steps++;
                return true;
            }
            ending = Fault.SPENT;
            code = 0;
            at = act;
            return false;
        }

        boolean isFailing() {
            return ending > 0 && ending < Fault.SPENT;
        }
    }

    /** FAILURES and what else ends a RUN, and which of them the parts of an ACT bring about; 0: none. */
    private static final class Fault {
        static final int NULL = 1, INDEX = 2, SIZE = 3, CAST = 4, STORE = 5, ARITHMETIC = 6, OWN = 7, RING = 8;
        static final int SPENT = 9, MUCH = 10, DEEP = 11, LONG = 12;

        /** xLength and yLength tell how many places x and y have. */
        static int of(int kind, long x, long y, long z, int xLength, int yLength) {
            switch (kind) {
                case Kind.PLUS: case Kind.TIMES: case Kind.BELOW:
                    return firstOf(ofWhole(x), ofWhole(y), 0);
                case Kind.DIVIDED:
                    return firstOf(ofWhole(x), ofWhole(y), Value.number(y) == 0 ? ARITHMETIC : 0);
                case Kind.NEW_ROW: case Kind.NEW_LINKS: case Kind.NEW_MARKED_ROW:
                    return firstOf(ofWhole(x), ofLength(Value.number(x)), 0);
                case Kind.READ:
                    return firstOf(ofWhole(y), ofThing(x, Value.isRow(x)), ofPlace(Value.number(y), xLength));
                case Kind.WRITE:
                    return ofWrite(x, y, z, xLength);
                case Kind.HELD: case Kind.HOLD:
                    return ofThing(x, Value.isLink(x));
                case Kind.COPY:
                    return ofCopy(x, y, z, Math.min(xLength, yLength));
                case Kind.FAIL:
                    return firstOf(ofWhole(x), OWN, 0);
                case Kind.CHOOSE: case Kind.LOOP: case Kind.TELL:
                    return ofWhole(x);
                case Kind.FORCE:
                    return ofThing(x, Value.sort(x) == Value.LATER);
                default:
                    return 0;
            }
        }

        private static int firstOf(int one, int next, int last) {
            if (one != 0) {
                return one;
            }
            return next != 0 ? next : last;
        }

        private static int ofThing(long value, boolean isWanted) {
            if (isWanted) {
                return 0;
            }
            return value == Value.NONE ? NULL : CAST;
        }

        private static int ofWhole(long value) {
            return ofThing(value, Value.sort(value) == Value.WHOLE);
        }

        private static int ofLength(int length) {
            if (length < 0) {
                return SIZE;
            }
            return length > Memory.LONGEST ? LONG : 0;
        }

        private static int ofPlace(int place, int length) {
            return place < 0 || place >= length ? INDEX : 0;
        }

        private static int ofWrite(long row, long place, long value, int length) {
            int ofValue = ofWhole(value);
            if (Value.isRowForLinks(row)) {
                ofValue = Value.isLinkOrNothing(value) ? 0 : CAST;
            }
            int ahead = firstOf(ofWhole(place), ofValue, ofThing(row, Value.isRow(row)));
            return firstOf(ahead, ofPlace(Value.number(place), length), Value.isStrange(row, value) ? STORE : 0);
        }

        private static int ofCopy(long from, long to, long many, int most) {
            if (ofWhole(many) != 0) {
                return ofWhole(many);
            }
            if (from == Value.NONE || to == Value.NONE) {
                return NULL;
            }
            if (!Value.isRow(from) || !Value.isRow(to) || Value.isRowForLinks(from) != Value.isRowForLinks(to)) {
                return STORE;
            }
            return Value.number(many) < 0 || Value.number(many) > most ? INDEX : 0;
        }
    }

    /**
     * The ACTS that have begun and not ended, one upon the other, as a RUN may be 200 of them deep. The
     * stage of one is how many of its parts gave their VALUE.
     */
    private static final class Stack {
        private final int[] acts;
        private final int[] frames;
        private final int[] stages;
        private final long[] partValues;
        /** How many changes of the memory were ahead of each. */
        private final int[] marks;
        /** The FAILURE that waits until what is always done is done; 0: none. */
        private final int[] heldFailures;
        private final int[] heldCodes;
        private final int[] heldAts;
        private int height;
        /** The topmost one; 0 while there is none, so that it is always a place. */
        private int top;

        Stack() {
            acts = new int[MOST_STEPS];
            frames = new int[MOST_STEPS];
            stages = new int[MOST_STEPS];
            partValues = new long[3 * MOST_STEPS];
            marks = new int[MOST_STEPS];
            heldFailures = new int[MOST_STEPS];
            heldCodes = new int[MOST_STEPS];
            heldAts = new int[MOST_STEPS];
            height = 0;
            top = 0;
        }

        void restart() {
            height = 0;
            top = 0;
        }

        boolean isEmpty() {
            return height == 0;
        }

        void push(int act, int frame, int mark) {
            if (height >= MOST_STEPS) {
                return;
            }
            top = height;
            height++;
            acts[top] = act;
            frames[top] = frame;
            stages[top] = 0;
            marks[top] = mark;
            heldFailures[top] = 0;
        }

        void pop() {
            height = top;
            top = top > 0 ? top - 1 : 0;
        }

        int actOnTop() {
            return acts[top];
        }

        int frame() {
            return frames[top];
        }

        int stage() {
            return stages[top];
        }

        void setStage(int stage) {
            stages[top] = stage;
        }

        /** A part of the topmost ACT gave this. */
        void take(long value) {
            int stage = stages[top];
            if (stage >= 0 && stage < 3) {
                partValues[3 * top + stage] = value;
                stages[top] = stage + 1;
            }
        }

        long value(int part) {
            return part >= 0 && part < 3 ? partValues[3 * top + part] : Value.NONE;
        }

        int mark() {
            return marks[top];
        }

        void hold(Course course) {
            heldFailures[top] = course.ending;
            heldCodes[top] = course.code;
            heldAts[top] = course.at;
        }

        boolean holdsFailure() {
            return heldFailures[top] != 0;
        }

        void letGo(Course course) {
            course.goOn(heldFailures[top], heldCodes[top], heldAts[top]);
        }
    }

    /** Does the ACTS, turn by turn, without calling itself. */
    private static final class Machine {
        private static final int MOST_TOLD = 40;
        private static final int MOST_CALLS = 8;
        private static final int CODE_SLOT = 7;
        /** Far above what 200 STEPS can need: an ACT has at most a turn more than parts. */
        private static final int MOST_TURNS = 100000;

        private final Acts acts;
        final Memory memory;
        final Course course;
        final int[] outRow;
        int outSize;
        private final Frames frames;
        private final Laters laters;
        private final Stack stack;
        private int calls;

        Machine(Acts ofWhich) {
            acts = ofWhich;
            memory = new Memory();
            course = new Course();
            outRow = new int[MOST_TOLD];
            outSize = 0;
            frames = new Frames();
            laters = new Laters();
            stack = new Stack();
            calls = 0;
        }

        void restart(int steps) {
            memory.restart();
            course.restart(steps);
            outSize = 0;
            frames.restart();
            laters.restart();
            stack.restart();
            calls = 0;
        }

        void perform(int act, int steps) {
            restart(steps);
            begin(act, frames.open());
            for (int i = 0; i < MOST_TURNS && !stack.isEmpty(); i++) {
                if (course.ending != 0) {
                    leave();
                } else if (comesToWork()) {
                    work();
                }
            }
        }

        private void begin(int act, int frame) {
            if (course.takesStep(act)) {
                stack.push(act, frame, memory.changesSoFar());
            }
        }

        private void beginPart(int n) {
            begin(acts.part(stack.actOnTop(), n), stack.frame());
        }

        private void give(long value) {
            stack.pop();
            if (stack.isEmpty()) {
                course.value = value;
            } else {
                stack.take(value);
            }
        }

        /** The topmost ACT FAILS by itself, not by a part of it. */
        private void fail(int failure, int code) {
            int act = stack.actOnTop();
            stack.pop();
            course.arise(failure, code, act);
        }

        private void endRun(int by) {
            int act = stack.actOnTop();
            stack.pop();
            course.end(by, act);
        }

        /** Whether the topmost ACT can be worked: else its next part begins, or its parts make it FAIL. */
        private boolean comesToWork() {
            int act = stack.actOnTop();
            int ahead = acts.partsAhead(act);
            if (stack.stage() < ahead) {
                beginPart(stack.stage());
                return false;
            }
            return stack.stage() > ahead || !isStopped(acts.given(act, 0));
        }

        private boolean isStopped(int kind) {
            long x = stack.value(0);
            long y = stack.value(1);
            int fault = Fault.of(kind, x, y, stack.value(2), memory.lengthOf(x), memory.lengthOf(y));
            if (fault == Fault.LONG) {
                endRun(fault);
            } else if (fault != 0) {
                fail(fault, fault == Fault.OWN ? Value.number(x) : fault);
            }
            return fault != 0;
        }

        /** The topmost ACT begins what it has beside the parts ahead, gives its VALUE or FAILS. */
        private void work() {
            int kind = acts.given(stack.actOnTop(), 0);
            switch (kind) {
                case Kind.KEEP: keep(); break;
                case Kind.CATCH: give(stack.value(stack.stage() - 1)); break;
                case Kind.ALWAYS: doAlways(); break;
                case Kind.CHOOSE: choose(); break;
                case Kind.LOOP: loop(); break;
                case Kind.CALL: call(); break;
                case Kind.DELAY: delay(); break;
                case Kind.FORCE: force(Value.number(stack.value(0))); break;
                case Kind.ATTEMPT: give(stack.value(0)); break;
                case Kind.COPY: copy(); break;
                default: workPlainly(kind); break;
            }
        }

        private void keep() {
            if (stack.stage() == 1) {
                frames.write(stack.frame(), acts.given(stack.actOnTop(), 2), stack.value(0));
                beginPart(1);
            } else {
                give(stack.value(1));
            }
        }

        private void doAlways() {
            if (stack.stage() == 1) {
                beginPart(1);
            } else if (stack.holdsFailure()) {
                stack.letGo(course);
                stack.pop();
            } else {
                give(stack.value(0));
            }
        }

        private void choose() {
            if (stack.stage() == 1) {
                beginPart(Value.number(stack.value(0)) != 0 ? 1 : 2);
            } else {
                give(stack.value(1));
            }
        }

        private void loop() {
            if (stack.stage() == 2) {
                askAgain();
            } else if (Value.number(stack.value(0)) != 0) {
                beginPart(1);
            } else {
                give(Value.NONE);
            }
        }

        /** The asking is a STEP of its own, ahead of the one by which x begins. */
        private void askAgain() {
            if (course.takesStep(stack.actOnTop())) {
                stack.setStage(0);
            }
        }

        private void call() {
            if (stack.stage() == 1) {
                enter(acts.given(stack.actOnTop(), 1));
            } else {
                calls--;
                give(stack.value(1));
            }
        }

        private void enter(int act) {
            if (!acts.has(act)) {
                give(Value.NONE);
            } else if (calls >= MOST_CALLS) {
                endRun(Fault.DEEP);
            } else {
                calls++;
                int frame = frames.open();
                frames.write(frame, 0, stack.value(0));
                begin(act, frame);
            }
        }

        private void delay() {
            give(laters.add(acts.part(stack.actOnTop(), 0), stack.frame()));
        }

        private void force(int later) {
            if (stack.stage() == 1) {
                workLater(later);
            } else {
                laters.finish(later, stack.value(1));
                give(stack.value(1));
            }
        }

        private void workLater(int later) {
            switch (laters.stateOf(later)) {
                case Laters.AT_WORK:
                    fail(Fault.RING, Fault.RING);
                    break;
                case Laters.DONE:
                    give(laters.valueOf(later));
                    break;
                case Laters.FAILED:
                    fail(laters.failureOf(later), laters.codeOf(later));
                    break;
                default:
                    laters.setState(later, Laters.AT_WORK);
                    begin(laters.actOf(later), laters.frameOf(later));
                    break;
            }
        }

        private void copy() {
            long z = stack.value(2);
            if (memory.copied(stack.value(0), stack.value(1), Value.number(z))) {
                give(z);
            } else {
                fail(Fault.STORE, Fault.STORE);
            }
        }

        private void workPlainly(int kind) {
            int a = acts.given(stack.actOnTop(), 1);
            long x = stack.value(0);
            long y = stack.value(1);
            give(kind <= Kind.ALIKE ? reckon(kind, a, x, y) : change(kind, a, x, y, stack.value(2)));
        }

        private long reckon(int kind, int a, long x, long y) {
            int left = Value.number(x);
            int right = Value.number(y);
            switch (kind) {
                case Kind.WHOLE: return Value.whole(a);
                case Kind.SLOT: return frames.read(stack.frame(), a);
                case Kind.THEN: return y;
                case Kind.PLUS: return Value.whole(left + right);
                case Kind.TIMES: return Value.whole(left * right);
                case Kind.DIVIDED: return right != 0 ? Value.whole(left / right) : Value.NONE;
                case Kind.BELOW: return Value.truth(left < right);
                case Kind.ALIKE: return Value.truth(x == y);
                default: return Value.NONE;
            }
        }

        private long change(int kind, int a, long x, long y, long z) {
            switch (kind) {
                case Kind.NEW_ROW: return memory.newRow(Value.ROW, Value.number(x));
                case Kind.NEW_LINKS: return memory.newRow(Value.LINKS, Value.number(x));
                case Kind.NEW_MARKED_ROW: return memory.newRow(Value.MARKED_ROW, Value.number(x));
                case Kind.NEW_LINK: return memory.newLink(Value.LINK, x);
                case Kind.NEW_MARKED_LINK: return memory.newLink(Value.MARKED_LINK, x);
                case Kind.READ: return memory.read(Memory.cellOf(x, Value.number(y)));
                case Kind.WRITE: return put(Memory.cellOf(x, Value.number(y)), z);
                case Kind.HELD: return memory.read(Value.number(x));
                case Kind.HOLD: return put(Value.number(x), y);
                case Kind.TELL: return tell(x);
                case Kind.FROM_BOX: return memory.read(a);
                case Kind.TO_BOX: return put(a, x);
                default: return Value.NONE;
            }
        }

        private long put(int cell, long value) {
            memory.write(cell, value);
            return value;
        }

        private long tell(long whole) {
            if (outSize < MOST_TOLD) {
                outRow[outSize] = Value.number(whole);
                outSize++;
            }
            return whole;
        }

        /** A part of the topmost ACT FAILED, or the RUN ended in it. */
        private void leave() {
            int kind = acts.given(stack.actOnTop(), 0);
            boolean inFirstPart = stack.stage() == 0;
            if (course.isFailing() && inFirstPart && kind == Kind.CATCH && isCaught()) {
                takeUp();
                return;
            }
            if (course.isFailing() && inFirstPart && kind == Kind.ALWAYS) {
                stack.hold(course);
                stack.setStage(1);
                course.settle();
                return;
            }
            if (kind == Kind.CALL && !inFirstPart) {
                calls--;
            } else if (kind == Kind.FORCE && !inFirstPart) {
                leaveLater(Value.number(stack.value(0)));
            } else if (kind == Kind.ATTEMPT) {
                memory.undoBackTo(stack.mark());
            }
            stack.pop();
        }

        private boolean isCaught() {
            int wanted = acts.given(stack.actOnTop(), 2);
            return wanted == 0 || wanted == course.ending;
        }

        private void takeUp() {
            frames.write(stack.frame(), CODE_SLOT, Value.whole(course.code));
            course.settle();
            stack.setStage(1);
            beginPart(1);
        }

        private void leaveLater(int later) {
            if (course.isFailing()) {
                laters.giveUp(later, course.ending, course.code);
            } else {
                laters.setState(later, Laters.FRESH);
            }
        }
    }
}
