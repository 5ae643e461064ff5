/** What the tests share: names for the document's numbers, and a count of wrong answers. */
final class Due {
    static final int SET = 0, ADD = 1, PUT = 2, DIV = 3, ROW = 4, IN = 5, OUT = 6, CALL = 7, MAKE = 8,
            THROW = 9, LOG = 10, TRY = 11, DROP = 12;
    static final int NOT = 0, IN_WORK = 1, DONE = 2, FAILED = 3;
    static final int NONE = ClassStarts.NONE, UNKNOWN = ClassStarts.UNKNOWN, OUTSIDE = ClassStarts.OUTSIDE,
            STATE = ClassStarts.STATE, ROOM = ClassStarts.ROOM;
    /** Numbers near every bound of the document, and far from all of them. */
    static final int[] WILD = {Integer.MIN_VALUE, -1000, -6, -5, -4, -3, -2, -1, 0, 1, 2, 3, 4, 5, 8, 9, 10, 11, 12,
            13, 19, 20, 21, 59, 60, 79, 80, 81, 1000, Integer.MAX_VALUE};

    private static int wrong = 0;

    private Due() {
    }

    static void due(String call, int got, int want) {
        if (got != want) {
            wrong++;
            System.out.println(call + " answered " + got + ", due is " + want);
        }
    }

    /** All EVENTS of the latest run(), each as its sort and its number; none behind them. */
    static void dueEvents(String name, ClassStarts x, int... pairs) {
        int n = pairs.length / 2;
        due(name + ": count(0)", x.count(0), n);
        for (int i = 0; i < n; i++) {
            due(name + ": event(" + i + ", 0)", x.event(i, 0), pairs[2 * i]);
            due(name + ": event(" + i + ", 1)", x.event(i, 1), pairs[2 * i + 1]);
        }
        due(name + ": event(" + n + ", 0)", x.event(n, 0), 0);
        due(name + ": event(" + n + ", 1)", x.event(n, 1), 0);
    }

    /** An ACT that must be taken. */
    static void act(ClassStarts x, int kind, int method, int sort, int a, int b, int c) {
        int got = x.act(kind, method, sort, a, b, c);
        if (got < 1) {
            due("act(" + kind + ", " + method + ", " + sort + ", " + a + ", " + b + ", " + c + ")", got, 1);
        }
    }

    static void act(ClassStarts x, int kind, int method, int sort, int a, int b) {
        act(x, kind, method, sort, a, b, 0);
    }

    static void act(ClassStarts x, int kind, int method, int sort, int a) {
        act(x, kind, method, sort, a, 0, 0);
    }

    /** An object with so many CLASSES, each without a PARENT. */
    static ClassStarts classes(int n) {
        ClassStarts x = new ClassStarts();
        for (int i = 0; i < n; i++) {
            due("made(NONE)", x.made(NONE), i);
        }
        return x;
    }

    static void end() {
        System.out.println(wrong == 0 ? "all answers are as due" : wrong + " answers are not as due");
        if (wrong != 0) {
            System.exit(1);
        }
    }
}
