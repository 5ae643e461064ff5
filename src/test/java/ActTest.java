/** Promise 6: which ACTS are taken, which are refused, and how; the bounds of each ACT's numbers. */
public final class ActTest {
    private static final int FACE = 0, CLASS = 1;

    public static void main(String[] args) {
        hold();
        Due.end();
    }

    static void hold() {
        Sentence.holds(6, "An ACT more of a METHOD: how many.", ActTest::howMany);
        Sentence.holds(6, "UNKNOWN: X,", ActTest::unknownX);
        Sentence.holds(6, "and one that the ACT names;", ActTest::unknownNamed);
        Sentence.holds(6, "OUTSIDE: METHOD,", ActTest::outsideMethod);
        Sentence.holds(6, "sort of ACT,", ActTest::outsideSort);
        Sentence.holds(6, "a number of it;", ActTest::outsideNumber);
        Sentence.holds(6, "STATE: MAKE of a FACE;", ActTest::makeOfAFace);
        Sentence.holds(6, "X is not NOT;", ActTest::whenStarted);
        Sentence.holds(6, "ROOM.", ActTest::room);
        Sentence.holds(Sentence.ACTS, "Numbers that an ACT does not use are not looked at.", ActTest::numbersNotUsed);
    }

    private static ClassStarts two() {
        return Due.kinds("FC");
    }

    /** The answer of one act() on a new object with a FACE, 0, and a CLASS, 1. */
    private static void answers(int want, int kind, int method, int sort, int a, int b, int c) {
        Due.due("act(" + kind + ", " + method + ", " + sort + ", " + a + ", " + b + ", " + c + ")",
            two().act(kind, method, sort, a, b, c), want);
    }

    private static void howMany() {
        ClassStarts x = two();
        for (int i = 1; i <= 10; i++) {
            for (int method = 0; method < 4; method++) {
                Due.due("of the CLASS", x.act(CLASS, method, Due.LOG, i, 0, 0), i);
                Due.due("of the FACE", x.act(FACE, method, Due.DROP, i, 0, 0), i);
            }
        }
        Due.due("run(CLASS, 2)", x.run(CLASS, 2), Due.NONE);
        for (int i = 1; i <= 10; i++) {
            Due.due("in the START", x.event(i, 1), i);
            Due.due("in METHOD 2", x.event(11 + i, 1), i);
        }
        x.again();
        Due.due("again() leaves the ACTS", x.act(CLASS, 0, Due.LOG, 11, 0, 0), Due.ROOM);
    }

    private static void unknownX() {
        for (int n : Due.WILD) {
            answers(n == 0 || n == 1 ? 1 : Due.UNKNOWN, n, 0, Due.SET, 0, 0, 0);
            answers(n == 0 || n == 1 ? 1 : Due.UNKNOWN, n, 3, Due.CALL, CLASS, 1, 0);
        }
    }

    private static void unknownNamed() {
        for (int n : Due.WILD) {
            boolean there = n == 0 || n == 1;
            for (int sort : new int[] {Due.ADD, Due.PUT, Due.DIV}) {
                answers(there ? 1 : Due.UNKNOWN, CLASS, 0, sort, 0, n, 0);
                answers(there ? 1 : Due.UNKNOWN, FACE, 3, sort, 3, n, 3);
            }
            answers(there ? 1 : Due.UNKNOWN, CLASS, 0, Due.CALL, n, 1, 0);
            answers(n == CLASS ? 1 : there ? Due.STATE : Due.UNKNOWN, CLASS, 0, Due.MAKE, n, 0, 0);
        }
        ClassStarts x = two();
        Due.due("MAKE of the next one", x.act(CLASS, 0, Due.MAKE, 2, 0, 0), Due.UNKNOWN);
        Due.due("the next one", x.made(Due.NONE), 2);
        Due.due("MAKE of it", x.act(CLASS, 0, Due.MAKE, 2, 0, 0), 1);
    }

    private static void outsideMethod() {
        for (int method : Due.WILD) {
            for (int kind = 0; kind < 2; kind++) {
                answers(method >= 0 && method < 4 ? 1 : Due.OUTSIDE, kind, method, Due.LOG, 0, 0, 0);
            }
        }
    }

    private static void outsideSort() {
        for (int sort : Due.WILD) {
            answers(sort >= 0 && sort <= 12 ? 1 : Due.OUTSIDE, CLASS, 1, sort, 1, 1, 1);
        }
        answers(Due.OUTSIDE, CLASS, 1, 13, 99, 99, 99);
    }

    private static void outsideNumber() {
        for (int n : Due.WILD) {
            int field = n >= 0 && n <= 3 ? 1 : Due.OUTSIDE;
            answers(field, CLASS, 1, Due.SET, n, 0, 0);
            answers(field, CLASS, 1, Due.ROW, n, 0, 0);
            for (int sort : new int[] {Due.ADD, Due.PUT, Due.DIV}) {
                answers(field, CLASS, 1, sort, n, CLASS, 0);
                answers(field, CLASS, 1, sort, 0, CLASS, n);
            }
            for (int sort : new int[] {Due.IN, Due.OUT}) {
                answers(field, CLASS, 1, sort, n, 0, 0);
                answers(field, CLASS, 1, sort, 0, n, 0);
            }
            answers(n >= 1 && n <= 3 ? 1 : Due.OUTSIDE, CLASS, 1, Due.CALL, CLASS, n, 0);
            answers(n >= 1 && n <= 3 ? 1 : Due.OUTSIDE, CLASS, 1, Due.CALL, FACE, n, 0);
            answers(n >= 0 && n <= 2 ? 1 : Due.OUTSIDE, CLASS, 1, Due.THROW, n, 0, 0);
            answers(n >= 1 && n <= 9 ? 1 : Due.OUTSIDE, CLASS, 1, Due.TRY, n, 0, 0);
            answers(n >= -1 && n <= 9 ? 1 : Due.OUTSIDE, CLASS, 1, Due.TRY, 1, n, 0);
        }
    }

    private static void makeOfAFace() {
        answers(Due.STATE, CLASS, 0, Due.MAKE, FACE, 0, 0);
        answers(Due.STATE, FACE, 3, Due.MAKE, FACE, 0, 0);
        answers(1, CLASS, 0, Due.MAKE, CLASS, 0, 0);
        answers(1, FACE, 3, Due.MAKE, CLASS, 0, 0);
        answers(1, CLASS, 0, Due.CALL, FACE, 1, 0);
    }

    private static void whenStarted() {
        ClassStarts x = two();
        Due.act(x, FACE, 0, Due.THROW, 0);
        x.run(CLASS, 1);
        x.run(FACE, 1);
        for (int sort = 0; sort <= 12; sort++) {
            Due.due("ACT " + sort + " of one that is DONE", x.act(CLASS, 2, sort, 1, 1, 1), Due.STATE);
            Due.due("ACT " + sort + " of one that FAILED", x.act(FACE, 2, sort, 1, 1, 1), Due.STATE);
        }
        Due.due("one more", x.made(Due.NONE), 2);
        Due.due("an ACT of one that is NOT, of one that is DONE", x.act(2, 0, Due.MAKE, CLASS, 0, 0), 1);
        Due.due("an ACT of one that is NOT, of one that FAILED", x.act(2, 0, Due.CALL, FACE, 1, 0), 2);
        x.again();
        Due.due("an ACT of one that is NOT again", x.act(CLASS, 2, Due.LOG, 0, 0, 0), 1);
        Due.due("and of the other one", x.act(FACE, 2, Due.LOG, 0, 0, 0), 1);
    }

    private static void room() {
        for (int sort = 0; sort <= 12; sort++) {
            ClassStarts x = two();
            for (int i = 1; i <= 10; i++) {
                Due.due("ACT " + i, x.act(CLASS, 3, Due.LOG, i, 0, 0), i);
            }
            Due.due("the 11th, of sort " + sort, x.act(CLASS, 3, sort, 1, 1, 1), Due.ROOM);
            Due.due("of another METHOD", x.act(CLASS, 2, sort, 1, 1, 1), 1);
            Due.due("of another one", x.act(FACE, 3, sort, 1, 1, 1), 1);
        }
    }

    private static void numbersNotUsed() {
        for (int n : Due.WILD) {
            answers(1, CLASS, 2, Due.SET, 3, n, n);
            answers(1, CLASS, 2, Due.ROW, 3, n, n);
            answers(1, CLASS, 2, Due.IN, 3, 3, n);
            answers(1, CLASS, 2, Due.OUT, 3, 3, n);
            answers(1, CLASS, 2, Due.CALL, CLASS, 3, n);
            answers(1, CLASS, 2, Due.MAKE, CLASS, n, n);
            answers(1, CLASS, 2, Due.THROW, 2, n, n);
            answers(1, CLASS, 2, Due.LOG, n, n, n);
            answers(1, CLASS, 2, Due.TRY, 9, 9, n);
            answers(1, CLASS, 2, Due.DROP, n, n, n);
        }
        ClassStarts x = Due.classes(2);
        Due.act(x, 0, 1, Due.SET, 0, 1, 1);
        Due.act(x, 0, 1, Due.ROW, 0, 1, 1);
        Due.act(x, 0, 1, Due.IN, 1, 1, 1);
        Due.act(x, 0, 1, Due.OUT, 1, 1, 1);
        Due.act(x, 0, 1, Due.LOG, 1, 1, 1);
        Due.act(x, 0, 1, Due.TRY, 1, 1, 1);
        Due.act(x, 0, 1, Due.DROP, 1, 1, 1);
        Due.due("run(0, 1)", x.run(0, 1), Due.NONE);
        Due.due("no other one is WANTED by them", x.state(1), Due.NOT);
    }
}
