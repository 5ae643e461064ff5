/** What the tests share: names for the document's numbers, and a count of wrong answers. */
final class Due {
    static final int SET = 0, ADD = 1, PUT = 2, DIV = 3, ROW = 4, IN = 5, OUT = 6, CALL = 7, MAKE = 8,
            THROW = 9, LOG = 10, TRY = 11, DROP = 12;
    static final int NOT = 0, IN_WORK = 1, DONE = 2, FAILED = 3;
    static final int NONE = ClassStarts.NONE, UNKNOWN = ClassStarts.UNKNOWN, OUTSIDE = ClassStarts.OUTSIDE,
            STATE = ClassStarts.STATE, ROOM = ClassStarts.ROOM;
    static final int MIN = Integer.MIN_VALUE, MAX = Integer.MAX_VALUE;
    /** Numbers near every bound of the document, and far from all of them. */
    static final int[] WILD = {MIN, -1000, -6, -5, -4, -3, -2, -1, 0, 1, 2, 3, 4, 5, 8, 9, 10, 11, 12, 13, 19, 20, 21,
            59, 60, 79, 80, 81, 1000, MAX};

    private static int wrong = 0;
    private static String about = "";

    private Due() {
    }

    /** What is told ahead of each wrong answer from now on. */
    static void about(String words) {
        about = words;
    }

    static void due(String call, int got, int want) {
        if (got != want) {
            wrong++;
            System.out.println(about + call + " answered " + got + ", due is " + want);
        }
    }

    /** All EVENTS of the latest run(), each as its sort and its number; none behind them. */
    static void dueEvents(String name, ClassStarts x, int... pairs) {
        int n = pairs.length / 2;
        due(name + ": count(0)", x.count(0), n);
        for (int i = 0; i < n; i++) {
            due(name + ": event(" + i + ", 0)", x.event(i, 0), pairs[2 * i]);
            due(name + ": event(" + i + ", 1)", x.event(i, 1), pairs[2 * i + 1]);
        }
        due(name + ": event(" + n + ", 0)", x.event(n, 0), 0);
        due(name + ": event(" + n + ", 1)", x.event(n, 1), 0);
    }

    /** An ACT that must be taken. */
    static void act(ClassStarts x, int kind, int method, int sort, int a, int b, int c) {
        int got = x.act(kind, method, sort, a, b, c);
        if (got < 1) {
            due("act(" + kind + ", " + method + ", " + sort + ", " + a + ", " + b + ", " + c + ")", got, 1);
        }
    }

    static void act(ClassStarts x, int kind, int method, int sort, int a, int b) {
        act(x, kind, method, sort, a, b, 0);
    }

    static void act(ClassStarts x, int kind, int method, int sort, int a) {
        act(x, kind, method, sort, a, 0, 0);
    }

    /** LOGS of a METHOD, of the numbers from .. to. */
    static void logs(ClassStarts x, int kind, int method, int from, int to) {
        for (int i = from; i <= to; i++) {
            act(x, kind, method, LOG, i);
        }
    }

    /** An object with so many CLASSES, each without a PARENT. */
    static ClassStarts classes(int n) {
        ClassStarts x = new ClassStarts();
        for (int i = 0; i < n; i++) {
            due("made(NONE)", x.made(NONE), i);
        }
        return x;
    }

    /** KINDS by letters: F a FACE with DEFAULTS, f one without, C a CLASS without a PARENT, P one of the latest. */
    static ClassStarts kinds(String letters) {
        ClassStarts x = new ClassStarts();
        for (int i = 0; i < letters.length(); i++) {
            char letter = letters.charAt(i);
            int got = letter == 'F' || letter == 'f' ? x.face(letter == 'F') : x.made(letter == 'P' ? i - 1 : NONE);
            due("the KIND " + i + " of " + letters, got, i);
        }
        return x;
    }

    /** METHODS 1, 2, 3 of CLASS 0, then of 1, and so on, that CALL each the next one: so many, the last CALLS none. */
    static ClassStarts chain(int methods) {
        ClassStarts x = classes((methods + 2) / 3);
        for (int i = 0; i + 1 < methods; i++) {
            act(x, i / 3, i % 3 + 1, CALL, (i + 1) / 3, (i + 1) % 3 + 1);
        }
        return x;
    }

    /** METHOD 1 of CLASS 0 works its METHOD 2 so often, and that has so many LOGS; CLASS 1 has nothing yet. */
    static ClassStarts busy(int calls, int logs) {
        ClassStarts x = classes(2);
        for (int i = 0; i < calls; i++) {
            act(x, 0, 1, CALL, 0, 2);
        }
        logs(x, 0, 2, 0, logs - 1);
        return x;
    }

    static void end() {
        System.out.println(wrong == 0 ? "all answers are as due" : wrong + " answers are not as due");
        if (wrong != 0) {
            System.exit(1);
        }
    }
}
