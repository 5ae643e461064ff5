/** Promise 6: which ACTS are taken, which are refused, and how. */
public final class ActTest {
    private static final int FACE = 0, CLASS = 1;

    public static void main(String[] args) {
        unknown();
        methodsAndSorts();
        numbersOfEachSort();
        numbersNotUsed();
        state();
        room();
        refusedChangesNothing();
        Due.end();
    }

    private static ClassStarts two() {
        ClassStarts x = new ClassStarts();
        x.face(true);
        x.made(Due.NONE);
        return x;
    }

    private static void refused(int want, int kind, int method, int sort, int a, int b, int c) {
        Due.due("act(" + kind + ", " + method + ", " + sort + ", " + a + ", " + b + ", " + c + ")",
            two().act(kind, method, sort, a, b, c), want);
    }

    private static void unknown() {
        refused(Due.UNKNOWN, 2, 0, Due.SET, 0, 0, 0);
        refused(Due.UNKNOWN, -1, 0, Due.SET, 0, 0, 0);
        refused(Due.UNKNOWN, 2, 9, 99, 0, 0, 0);
        for (int sort : new int[] {Due.ADD, Due.PUT, Due.DIV}) {
            refused(Due.UNKNOWN, CLASS, 0, sort, 0, 2, 0);
            refused(Due.UNKNOWN, CLASS, 0, sort, 0, -1, 0);
            refused(Due.UNKNOWN, CLASS, 4, sort, 9, 2, 9);
            refused(1, CLASS, 0, sort, 0, FACE, 0);
        }
        refused(Due.UNKNOWN, CLASS, 0, Due.CALL, 2, 1, 0);
        refused(Due.UNKNOWN, CLASS, 0, Due.CALL, -1, 1, 0);
        refused(Due.UNKNOWN, CLASS, 9, Due.CALL, 2, 9, 0);
        refused(Due.UNKNOWN, CLASS, 0, Due.MAKE, 2, 0, 0);
        refused(Due.UNKNOWN, CLASS, 0, Due.MAKE, -1, 0, 0);
        refused(Due.UNKNOWN, CLASS, -1, Due.MAKE, 2, 0, 0);
    }

    private static void methodsAndSorts() {
        for (int method = 0; method < 4; method++) {
            refused(1, CLASS, method, Due.LOG, 0, 0, 0);
            refused(1, FACE, method, Due.LOG, 0, 0, 0);
        }
        refused(Due.OUTSIDE, CLASS, 4, Due.LOG, 0, 0, 0);
        refused(Due.OUTSIDE, CLASS, -1, Due.LOG, 0, 0, 0);
        refused(Due.OUTSIDE, CLASS, 0, 13, 0, 0, 0);
        refused(Due.OUTSIDE, CLASS, 0, -1, 0, 0, 0);
        refused(Due.OUTSIDE, CLASS, 4, Due.MAKE, FACE, 0, 0);
    }

    private static void numbersOfEachSort() {
        for (int n : Due.WILD) {
            int field = n >= 0 && n <= 3 ? 1 : Due.OUTSIDE;
            refused(field, CLASS, 1, Due.SET, n, 0, 0);
            refused(field, CLASS, 1, Due.ROW, n, 0, 0);
            for (int sort : new int[] {Due.ADD, Due.PUT, Due.DIV}) {
                refused(field, CLASS, 1, sort, n, CLASS, 0);
                refused(field, CLASS, 1, sort, 0, CLASS, n);
            }
            for (int sort : new int[] {Due.IN, Due.OUT}) {
                refused(field, CLASS, 1, sort, n, 0, 0);
                refused(field, CLASS, 1, sort, 0, n, 0);
            }
            refused(n >= 1 && n <= 3 ? 1 : Due.OUTSIDE, CLASS, 1, Due.CALL, CLASS, n, 0);
            refused(n >= 1 && n <= 3 ? 1 : Due.OUTSIDE, CLASS, 1, Due.CALL, FACE, n, 0);
            refused(n >= 0 && n <= 2 ? 1 : Due.OUTSIDE, CLASS, 1, Due.THROW, n, 0, 0);
            refused(n >= 1 && n <= 9 ? 1 : Due.OUTSIDE, CLASS, 1, Due.TRY, n, 0, 0);
            refused(n >= -1 && n <= 9 ? 1 : Due.OUTSIDE, CLASS, 1, Due.TRY, 1, n, 0);
        }
    }

    private static void numbersNotUsed() {
        for (int n : Due.WILD) {
            refused(1, CLASS, 2, Due.SET, 3, n, n);
            refused(1, CLASS, 2, Due.ROW, 3, n, n);
            refused(1, CLASS, 2, Due.IN, 3, 3, n);
            refused(1, CLASS, 2, Due.OUT, 3, 3, n);
            refused(1, CLASS, 2, Due.CALL, CLASS, 3, n);
            refused(1, CLASS, 2, Due.MAKE, CLASS, n, n);
            refused(1, CLASS, 2, Due.THROW, 2, n, n);
            refused(1, CLASS, 2, Due.LOG, n, n, n);
            refused(1, CLASS, 2, Due.TRY, 9, 9, n);
            refused(1, CLASS, 2, Due.DROP, n, n, n);
        }
    }

    private static void state() {
        refused(Due.STATE, CLASS, 0, Due.MAKE, FACE, 0, 0);
        refused(1, CLASS, 0, Due.MAKE, CLASS, 0, 0);
        ClassStarts x = two();
        x.run(CLASS, 1);
        Due.due("an ACT of one that is DONE", x.act(CLASS, 0, Due.LOG, 0, 0, 0), Due.STATE);
        Due.due("UNKNOWN ahead of STATE", x.act(CLASS, 0, Due.MAKE, 7, 0, 0), Due.UNKNOWN);
        Due.due("OUTSIDE ahead of STATE", x.act(CLASS, 0, Due.THROW, 7, 0, 0), Due.OUTSIDE);
        Due.due("an ACT of one that is NOT", x.act(FACE, 0, Due.MAKE, CLASS, 0, 0), 1);
        x.again();
        Due.due("an ACT of one that is NOT again", x.act(CLASS, 0, Due.LOG, 0, 0, 0), 1);
    }

    private static void room() {
        ClassStarts x = two();
        for (int method = 0; method < 4; method++) {
            for (int i = 1; i <= 10; i++) {
                Due.due("ACT " + i + " of METHOD " + method, x.act(CLASS, method, Due.LOG, i, 0, 0), i);
            }
            Due.due("the 11th ACT", x.act(CLASS, method, Due.LOG, 11, 0, 0), Due.ROOM);
            Due.due("the 11th ACT, a TRY", x.act(CLASS, method, Due.TRY, 9, 9, 0), Due.ROOM);
            Due.due("STATE ahead of ROOM", x.act(CLASS, method, Due.MAKE, FACE, 0, 0), Due.STATE);
            Due.due("OUTSIDE ahead of ROOM", x.act(CLASS, method, Due.SET, 4, 0, 0), Due.OUTSIDE);
            Due.due("UNKNOWN ahead of ROOM", x.act(CLASS, method, Due.CALL, 2, 1, 0), Due.UNKNOWN);
        }
        Due.due("run(CLASS, 3)", x.run(CLASS, 3), Due.NONE);
        Due.due("ACTS", x.count(2), 20);
        x.again();
        Due.due("again() leaves the ACTS", x.act(CLASS, 0, Due.LOG, 11, 0, 0), Due.ROOM);
    }

    private static void refusedChangesNothing() {
        ClassStarts x = two();
        x.act(CLASS, 1, Due.THROW, 3, 0, 0);
        x.act(CLASS, 1, Due.MAKE, FACE, 0, 0);
        x.act(CLASS, 1, 13, 0, 0, 0);
        x.act(CLASS, 1, Due.ADD, 0, 5, 0);
        Due.due("the first ACT that is taken", x.act(CLASS, 1, Due.LOG, 7, 0, 0), 1);
        Due.due("run(CLASS, 1)", x.run(CLASS, 1), Due.NONE);
        Due.dueEvents("refused ACTS", x, 0, CLASS, 1, CLASS, 3, 7);
    }
}
