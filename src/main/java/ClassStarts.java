/**
 * Starts of classes: CLASSES and FACES with FIELDS, a ROW and METHODS of a few ACTS, run as the
 * machine would. The words in capitals are those of the document.
 */
public final class ClassStarts {
    public static final int NONE = -1, UNKNOWN = -2, OUTSIDE = -3, STATE = -4, ROOM = -5;

    private static final int MOST_KINDS = 12;

    /** Those below size are there; the others are null. */
    private final Kind[] kinds = new Kind[MOST_KINDS];
    private int size = 0;
    private final Machine machine = new Machine();
    private final Reach reach = new Reach();

    public ClassStarts() {
    }

    public int made(int parent) {
        Kind above = find(parent);
        if (parent != NONE && above == null) {
            return UNKNOWN;
        }
        if (above != null && above.isFace) {
            return STATE;
        }
        return keep(false, false, above);
    }

    public int face(boolean defaults) {
        return keep(true, defaults, null);
    }

    public int bears(int x, int face) {
        Kind kind = find(x);
        Kind borne = find(face);
        if (kind == null || borne == null) {
            return UNKNOWN;
        }
        if (!borne.isFace || borne.number >= kind.number || kind.hasFace(borne.number)
                || kind.state != Kind.NOT) {
            return STATE;
        }
        return kind.addFace(borne);
    }

    public int constant(int x, int field, int value) {
        Kind kind = find(x);
        if (kind == null) {
            return UNKNOWN;
        }
        if (!Kind.isField(field)) {
            return OUTSIDE;
        }
        if (kind.isConstant(field) || kind.state != Kind.NOT) {
            return STATE;
        }
        kind.fix(field, value);
        return 1;
    }

    public int act(int x, int method, int sort, int a, int b, int c) {
        Kind kind = find(x);
        if (kind == null) {
            return UNKNOWN;
        }
        Kind other = named(kind, sort, a, b);
        if (other == null) {
            return UNKNOWN;
        }
        if (!Kind.isMethod(method) || !Act.numbersFit(sort, a, b, c)) {
            return OUTSIDE;
        }
        if ((sort == Act.MAKE && other.isFace) || kind.state != Kind.NOT) {
            return STATE;
        }
        return kind.methods[method].append(sort, other, a, b, c);
    }

    public int run(int x, int method) {
        Kind kind = find(x);
        if (kind == null) {
            return UNKNOWN;
        }
        if (!Kind.isCallable(method)) {
            return OUTSIDE;
        }
        return machine.execute(kind, method);
    }

    public int cause() {
        Journal journal = machine.journal;
        return journal.ended == Machine.START_FAILED ? journal.startCause : NONE;
    }

    public int count(int what) {
        Journal journal = machine.journal;
        switch (what) {
            case 0:
                return journal.events;
            case 1:
                return journal.halfSeen;
            case 2:
                return journal.acts;
            case 3:
                return journal.raised;
            default:
                return OUTSIDE;
        }
    }

    public int event(int i, int what) {
        Journal journal = machine.journal;
        if (i < 0 || i >= journal.events) {
            return 0;
        }
        switch (what) {
            case 0:
                return journal.sorts[i];
            case 1:
                return journal.values[i];
            default:
                return 0;
        }
    }

    public int state(int x) {
        Kind kind = find(x);
        return kind == null ? UNKNOWN : kind.state;
    }

    public int field(int x, int f) {
        Kind kind = find(x);
        return kind == null ? 0 : kind.valueOf(f);
    }

    public int row(int x) {
        Kind kind = find(x);
        return kind == null ? UNKNOWN : kind.items;
    }

    public int item(int x, int i) {
        Kind kind = find(x);
        return kind == null || !kind.hasItem(i) ? 0 : kind.row[i];
    }

    public int again() {
        int touched = 0;
        for (int i = 0; i < size; i++) {
            if (kinds[i].state != Kind.NOT) {
                touched++;
            }
            kinds[i].reset();
        }
        return touched;
    }

    public int may(int x, int method) {
        Kind kind = find(x);
        if (kind == null) {
            return UNKNOWN;
        }
        if (!Kind.isMethod(method)) {
            return OUTSIDE;
        }
        return reach.ofMethod(kind, method);
    }

    public int ahead(int x, int y) {
        Kind kind = find(x);
        Kind other = find(y);
        if (kind == null || other == null) {
            return UNKNOWN;
        }
        return kind != other && (reach.ofStart(kind) & other.bit()) != 0 ? 1 : 0;
    }

    private Kind find(int x) {
        return x >= 0 && x < size ? kinds[x] : null;
    }

    private int keep(boolean isFace, boolean hasDefaults, Kind parent) {
        if (size >= MOST_KINDS) {
            return ROOM;
        }
        kinds[size] = new Kind(size, isFace, hasDefaults, parent);
        size++;
        return size - 1;
    }

    /** The one that an ACT of x names: x itself, where it names none; null, if there is no such. */
    private Kind named(Kind x, int sort, int a, int b) {
        switch (sort) {
            case Act.ADD:
            case Act.PUT:
            case Act.DIV:
                return find(b);
            case Act.CALL:
            case Act.MAKE:
                return find(a);
            default:
                return x;
        }
    }

    /** A CLASS or a FACE, with all that is its own. */
    private static final class Kind {
        static final int NOT = 0, IN_WORK = 1, DONE = 2, FAILED = 3;
        static final int METHODS = 4;
        private static final int FIELDS = 4, MOST_FACES = 3, MOST_ITEMS = 20;

        final int number;
        final boolean isFace;
        final boolean hasDefaults;
        /** null: it has none. */
        final Kind parent;
        /** Those below faceCount are there; the others are null. */
        final Kind[] faces = new Kind[MOST_FACES];
        int faceCount = 0;
        private final int[] fields = new int[FIELDS];
        private final boolean[] constants = new boolean[FIELDS];
        final int[] row = new int[MOST_ITEMS];
        int items = NONE;
        final Method[] methods = new Method[METHODS];
        int state = NOT;

        Kind(int number, boolean isFace, boolean hasDefaults, Kind parent) {
            this.number = number;
            this.isFace = isFace;
            this.hasDefaults = hasDefaults;
            this.parent = parent;
            for (int m = 0; m < METHODS; m++) {
                methods[m] = new Method(number * METHODS + m);
            }
        }

        static boolean isField(int f) {
            return f >= 0 && f < FIELDS;
        }

        static boolean isMethod(int m) {
            return m >= 0 && m < METHODS;
        }

        /** METHOD 0 is the START's alone. */
        static boolean isCallable(int m) {
            return m >= 1 && m < METHODS;
        }

        int bit() {
            return 1 << number;
        }

        boolean hasFace(int face) {
            for (int i = 0; i < faceCount; i++) {
                if (faces[i].number == face) {
                    return true;
                }
            }
            return false;
        }

        int addFace(Kind face) {
            if (faceCount >= MOST_FACES) {
                return ROOM;
            }
            faces[faceCount] = face;
            faceCount++;
            return faceCount;
        }

        boolean isConstant(int f) {
            return isField(f) && constants[f];
        }

        void fix(int f, int value) {
            if (isField(f)) {
                fields[f] = value;
                constants[f] = true;
            }
        }

        int valueOf(int f) {
            return isField(f) ? fields[f] : 0;
        }

        void change(int f, int value) {
            if (isField(f) && !constants[f]) {
                fields[f] = value;
            }
        }

        void makeRow(int wanted) {
            items = Math.max(0, Math.min(wanted, MOST_ITEMS));
            for (int i = 0; i < items; i++) {
                row[i] = 0;
            }
        }

        void dropRow() {
            items = NONE;
        }

        boolean hasItem(int i) {
            return i >= 0 && i < items;
        }

        void reset() {
            state = NOT;
            dropRow();
            for (int f = 0; f < FIELDS; f++) {
                change(f, 0);
            }
        }
    }

    /** The ACTS of one METHOD, in order. */
    private static final class Method {
        private static final int MOST_ACTS = 10;

        /** No two METHODS of an object have the same one. */
        final int number;
        /** Those below size are there; the others are null. */
        final Act[] acts = new Act[MOST_ACTS];
        int size = 0;

        Method(int number) {
            this.number = number;
        }

        int append(int sort, Kind other, int a, int b, int c) {
            if (size >= MOST_ACTS) {
                return ROOM;
            }
            int last = sort == Act.TRY ? lastGuarded(a) : NONE;
            acts[size] = new Act(sort, other, a, b, c, last);
            size++;
            return size;
        }

        /** Where the ACTS of a TRY that comes next end: no later than those of a TRY around it. */
        private int lastGuarded(int length) {
            int last = size + length;
            for (int i = 0; i < size; i++) {
                if (acts[i].guards(size)) {
                    last = Math.min(last, acts[i].lastGuarded);
                }
            }
            return last;
        }

        /** The last ACT that is ended when this is thrown in the ACT at a place; NONE: not caught. */
        int endOfCatch(int place, int thrown) {
            for (int i = Math.min(place, size) - 1; i >= 0; i--) {
                if (acts[i].guards(place) && acts[i].catches(thrown)) {
                    return acts[i].lastGuarded;
                }
            }
            return NONE;
        }
    }

    /** One ACT, its numbers known to fit. */
    private static final class Act {
        static final int SET = 0, ADD = 1, PUT = 2, DIV = 3, ROW = 4, IN = 5, OUT = 6, CALL = 7,
                MAKE = 8, THROW = 9, LOG = 10, TRY = 11, DROP = 12;
        private static final int MOST_THROWN = 2, MOST_GUARDED = 9, MOST_CAUGHT = 9;

        final int sort;
        /** The one that it names, or its own one: never null. */
        final Kind other;
        final int a;
        final int b;
        final int c;
        /** Of a TRY: the place of the last ACT that it guards, were the METHOD long enough. */
        final int lastGuarded;

        Act(int sort, Kind other, int a, int b, int c, int lastGuarded) {
            this.sort = sort;
            this.other = other;
            this.a = a;
            this.b = b;
            this.c = c;
            this.lastGuarded = lastGuarded;
        }

        static boolean numbersFit(int sort, int a, int b, int c) {
            switch (sort) {
                case SET:
                case ROW:
                    return Kind.isField(a);
                case ADD:
                case PUT:
                case DIV:
                    return Kind.isField(a) && Kind.isField(c);
                case IN:
                case OUT:
                    return Kind.isField(a) && Kind.isField(b);
                case CALL:
                    return Kind.isCallable(b);
                case THROW:
                    return a >= 0 && a <= MOST_THROWN;
                case TRY:
                    return a >= 1 && a <= MOST_GUARDED && b >= NONE && b <= MOST_CAUGHT;
                case MAKE:
                case LOG:
                case DROP:
                    return true;
                default:
                    return false;
            }
        }

        /** Asked of the ACTS ahead of that place alone. */
        boolean guards(int place) {
            return sort == TRY && place <= lastGuarded;
        }

        boolean catches(int thrown) {
            return b == NONE ? thrown != Machine.WORK : thrown == b;
        }

        /** Whether its other one is WANTED: a CONSTANT is read and left without a START. */
        boolean wants() {
            switch (sort) {
                case ADD:
                case PUT:
                case DIV:
                    return !other.isConstant(c);
                case CALL:
                case MAKE:
                    return true;
                default:
                    return false;
            }
        }
    }

    /** What is told of the latest run(). */
    private static final class Journal {
        static final int BEGUN = 0, DONE = 1, FAILED = 2, LOGGED = 3, CALLED = 4;
        private static final int MOST_EVENTS = 60;

        final int[] sorts = new int[MOST_EVENTS];
        final int[] values = new int[MOST_EVENTS];
        int events = 0;
        int halfSeen = 0;
        int acts = 0;
        int raised = 0;
        int ended = NONE;
        /** Of the latest START that failed by 0 .. 6. */
        int startCause = NONE;

        void clear() {
            events = 0;
            halfSeen = 0;
            acts = 0;
            raised = 0;
            ended = NONE;
            startCause = NONE;
        }

        void note(int sort, int value) {
            if (events < MOST_EVENTS) {
                sorts[events] = sort;
                values[events] = value;
                events++;
            }
        }
    }

    /**
     * Works METHODS. What a step answers is NONE, or the number that was thrown in it; the depth
     * that it is given is how many METHODS are worked around it.
     */
    private static final class Machine {
        static final int START_FAILED = 7, WORK = 10;
        private static final int BY_ZERO = 3, NO_ROW = 4, NO_ITEM = 5, NEGATIVE_ROW = 6,
                FAILED_BEFORE = 8, TOO_DEEP = 9;
        private static final int MOST_DEPTH = 8, MOST_ACTS = 80;

        final Journal journal = new Journal();

        int execute(Kind kind, int method) {
            journal.clear();
            int thrown = want(kind, 0);
            if (thrown == NONE) {
                thrown = work(kind, method, 0);
            }
            journal.ended = thrown;
            return thrown;
        }

        private int raise(int thrown) {
            journal.raised++;
            return thrown;
        }

        /** Goes no deeper than there are KINDS: only one that is NOT is started. */
        private int want(Kind kind, int depth) {
            if (kind.state == Kind.FAILED) {
                return raise(FAILED_BEFORE);
            }
            if (kind.state != Kind.NOT) {
                return NONE;
            }
            kind.state = Kind.IN_WORK;
            journal.note(Journal.BEGUN, kind.number);
            int thrown = start(kind, depth);
            if (thrown == NONE) {
                kind.state = Kind.DONE;
                journal.note(Journal.DONE, kind.number);
                return NONE;
            }
            kind.state = Kind.FAILED;
            journal.note(Journal.FAILED, kind.number);
            return afterStart(thrown);
        }

        private int start(Kind kind, int depth) {
            int thrown = NONE;
            if (kind.parent != null) {
                thrown = want(kind.parent, depth);
            }
            if (thrown == NONE && !kind.isFace) {
                thrown = lookThrough(kind, depth, MOST_KINDS);
            }
            if (thrown != NONE) {
                return thrown;
            }
            return depth < MOST_DEPTH ? work(kind, 0, depth) : raise(TOO_DEEP);
        }

        /** 7 and above already tell of a START, of the depth or of too much WORK: they go on. */
        private int afterStart(int thrown) {
            if (thrown >= START_FAILED) {
                return thrown;
            }
            journal.startCause = thrown;
            return raise(START_FAILED);
        }

        /** FACES are made before what has them, so the levels never run out. */
        private int lookThrough(Kind kind, int depth, int levels) {
            int thrown = NONE;
            for (int i = 0; i < kind.faceCount && thrown == NONE && levels > 0; i++) {
                Kind face = kind.faces[i];
                thrown = lookThrough(face, depth, levels - 1);
                if (thrown == NONE && face.hasDefaults) {
                    thrown = want(face, depth);
                }
            }
            return thrown;
        }

        private int work(Kind kind, int number, int depth) {
            Method method = kind.methods[number];
            int next = 0;
            for (int i = 0; i < method.size; i++) {
                if (i < next) {
                    continue;
                }
                int thrown = begin(kind, method.acts[i], depth + 1);
                if (thrown != NONE) {
                    int end = method.endOfCatch(i, thrown);
                    if (end == NONE) {
                        return thrown;
                    }
                    next = end + 1;
                }
            }
            return NONE;
        }

        private int begin(Kind kind, Act act, int depth) {
            if (journal.acts >= MOST_ACTS) {
                return WORK;
            }
            journal.acts++;
            if (act.wants()) {
                int thrown = want(act.other, depth);
                if (thrown != NONE) {
                    return thrown;
                }
            }
            return perform(kind, act, depth);
        }

        /** What an ACT does behind what it WANTS. */
        private int perform(Kind kind, Act act, int depth) {
            switch (act.sort) {
                case Act.SET:
                    kind.change(act.a, act.b);
                    return NONE;
                case Act.ADD:
                    kind.change(act.a, kind.valueOf(act.a) + readOther(kind, act));
                    return NONE;
                case Act.PUT:
                    act.other.change(act.c, kind.valueOf(act.a));
                    return NONE;
                case Act.DIV:
                    return divide(kind, act.a, readOther(kind, act));
                case Act.ROW:
                    return makeRow(kind, kind.valueOf(act.a));
                case Act.IN:
                    return putItem(kind, kind.valueOf(act.a), kind.valueOf(act.b));
                case Act.OUT:
                    return takeItem(kind, act.a, kind.valueOf(act.b));
                case Act.CALL:
                    return enter(act.other, act.b, depth);
                case Act.THROW:
                    return raise(act.a);
                case Act.LOG:
                    journal.note(Journal.LOGGED, act.a);
                    return NONE;
                case Act.DROP:
                    kind.dropRow();
                    return NONE;
                default:
                    // MAKE only WANTS, and what a TRY guards is known from its place.
                    return NONE;
            }
        }

        private int readOther(Kind kind, Act act) {
            Kind other = act.other;
            if (other != kind && other.state == Kind.IN_WORK && !other.isConstant(act.c)) {
                journal.halfSeen++;
            }
            return other.valueOf(act.c);
        }

        private int divide(Kind kind, int f, int divisor) {
            if (divisor == 0) {
                return raise(BY_ZERO);
            }
            kind.change(f, kind.valueOf(f) / divisor);
            return NONE;
        }

        private int makeRow(Kind kind, int wanted) {
            if (wanted < 0) {
                return raise(NEGATIVE_ROW);
            }
            kind.makeRow(wanted);
            return NONE;
        }

        private int putItem(Kind kind, int i, int value) {
            if (!kind.hasItem(i)) {
                return raise(kind.items == NONE ? NO_ROW : NO_ITEM);
            }
            kind.row[i] = value;
            return NONE;
        }

        private int takeItem(Kind kind, int f, int i) {
            if (!kind.hasItem(i)) {
                return raise(kind.items == NONE ? NO_ROW : NO_ITEM);
            }
            kind.change(f, kind.row[i]);
            return NONE;
        }

        private int enter(Kind kind, int method, int depth) {
            if (depth >= MOST_DEPTH) {
                return raise(TOO_DEEP);
            }
            journal.note(Journal.CALLED, 10 * kind.number + method);
            return work(kind, method, depth);
        }
    }

    /** What could be WANTED, as bits by numbers, told without a run. */
    private static final class Reach {
        private static final int MOST_METHODS = MOST_KINDS * Kind.METHODS;

        private int wanted = 0;
        private long listed = 0;
        /** METHODS that may be worked, each once; those below size are there. */
        private final Method[] methods = new Method[MOST_METHODS];
        private int size = 0;

        int ofMethod(Kind kind, int method) {
            clear();
            want(kind);
            list(kind.methods[method]);
            for (int i = 0; i < size && i < MOST_METHODS; i++) {
                follow(methods[i]);
            }
            return wanted;
        }

        /** The one itself, and all ahead of it. */
        int ofStart(Kind kind) {
            clear();
            want(kind);
            return wanted;
        }

        private void clear() {
            wanted = 0;
            listed = 0;
            size = 0;
        }

        private void follow(Method method) {
            for (int i = 0; i < method.size; i++) {
                Act act = method.acts[i];
                if (act.wants()) {
                    want(act.other);
                }
                if (act.sort == Act.CALL) {
                    list(act.other.methods[act.b]);
                }
            }
        }

        /** One that is there already has all ahead of it there too. */
        private void want(Kind kind) {
            Kind at = kind;
            for (int level = 0; level < MOST_KINDS && at != null && !isWanted(at); level++) {
                add(at);
                if (!at.isFace) {
                    lookThrough(at, MOST_KINDS);
                }
                at = at.parent;
            }
        }

        private void lookThrough(Kind kind, int levels) {
            for (int i = 0; i < kind.faceCount && levels > 0; i++) {
                Kind face = kind.faces[i];
                lookThrough(face, levels - 1);
                if (face.hasDefaults) {
                    add(face);
                }
            }
        }

        private boolean isWanted(Kind kind) {
            return (wanted & kind.bit()) != 0;
        }

        private void add(Kind kind) {
            wanted |= kind.bit();
            list(kind.methods[0]);
        }

        private void list(Method method) {
            long bit = 1L << method.number;
            if ((listed & bit) == 0 && size < MOST_METHODS) {
                listed |= bit;
                methods[size] = method;
                size++;
            }
        }
    }
}
