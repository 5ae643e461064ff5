/** Promises 16 and 17: what MAY be WANTED, and what is ahead. */
public final class ReachTest {
    public static void main(String[] args) {
        mayRefused();
        mayOfActs();
        mayOfConstants();
        mayOfCalls();
        mayOfThrows();
        mayOfParentsAndFaces();
        mayOfFaces();
        mayOfAll();
        mayIsOfNoState();
        aheadRefused();
        ahead();
        Due.end();
    }

    private static void mayRefused() {
        ClassStarts x = Due.classes(1);
        for (int n : Due.WILD) {
            Due.due("may(0, " + n + ")", x.may(0, n), n >= 0 && n <= 3 ? 1 : Due.OUTSIDE);
            Due.due("may(" + n + ", 0)", x.may(n, 0), n == 0 ? 1 : Due.UNKNOWN);
            Due.due("may(" + n + ", 4)", x.may(n, 4), n == 0 ? Due.OUTSIDE : Due.UNKNOWN);
        }
    }

    private static void mayOfActs() {
        for (int sort = 0; sort <= 12; sort++) {
            ClassStarts x = Due.classes(3);
            Due.act(x, 1, 2, sort, 2, 2, 1);
            boolean wants = sort == Due.ADD || sort == Due.PUT || sort == Due.DIV || sort == Due.CALL
                || sort == Due.MAKE;
            Due.due("may(1, 2) of ACT " + sort, x.may(1, 2), wants ? 6 : 2);
            Due.due("may(1, 1), another METHOD", x.may(1, 1), 2);
            Due.due("may(1, 0), another METHOD", x.may(1, 0), 2);
        }
    }

    private static void mayOfConstants() {
        for (int sort : new int[] {Due.ADD, Due.PUT, Due.DIV}) {
            ClassStarts x = Due.classes(2);
            Due.act(x, 0, 1, sort, 0, 1, 3);
            Due.due("may(0, 1)", x.may(0, 1), 3);
            x.constant(1, 2, 5);
            Due.due("may(0, 1), another CONSTANT", x.may(0, 1), 3);
            x.constant(1, 3, 5);
            Due.due("may(0, 1), a CONSTANT", x.may(0, 1), 1);
        }
    }

    private static void mayOfCalls() {
        ClassStarts x = Due.classes(6);
        Due.act(x, 0, 1, Due.CALL, 1, 2);
        Due.act(x, 1, 2, Due.CALL, 0, 3);
        Due.act(x, 0, 3, Due.MAKE, 2);
        Due.act(x, 2, 0, Due.CALL, 0, 1);
        Due.act(x, 2, 1, Due.MAKE, 3);
        Due.act(x, 1, 1, Due.MAKE, 4);
        Due.act(x, 1, 0, Due.MAKE, 5);
        Due.due("may(0, 1)", x.may(0, 1), 1 + 2 + 4 + 32);
        Due.due("may(0, 3)", x.may(0, 3), 1 + 4 + 2 + 32);
        Due.due("may(0, 2)", x.may(0, 2), 1);
        Due.due("may(1, 1)", x.may(1, 1), 2 + 16 + 32);
        Due.due("may(2, 1)", x.may(2, 1), 4 + 8 + 1 + 2 + 32);
        Due.due("may(0, 1) once more", x.may(0, 1), 1 + 2 + 4 + 32);
    }

    private static void mayOfThrows() {
        ClassStarts x = Due.classes(3);
        Due.act(x, 0, 0, Due.THROW, 0);
        Due.act(x, 0, 0, Due.MAKE, 1);
        Due.act(x, 0, 1, Due.TRY, 1, 3);
        Due.act(x, 0, 1, Due.MAKE, 2);
        Due.due("may(0, 1), whatever is thrown", x.may(0, 1), 7);
        x.run(0, 1);
        Due.due("state(1)", x.state(1), Due.NOT);
    }

    private static void mayOfParentsAndFaces() {
        ClassStarts x = new ClassStarts();
        x.face(true);
        x.face(false);
        x.face(true);
        x.made(Due.NONE);
        x.made(3);
        x.made(4);
        x.made(Due.NONE);
        x.bears(1, 0);
        x.bears(3, 1);
        x.bears(5, 2);
        Due.act(x, 0, 0, Due.MAKE, 6);
        Due.due("may(5, 1)", x.may(5, 1), 1 + 4 + 8 + 16 + 32 + 64);
        Due.due("may(4, 1)", x.may(4, 1), 1 + 8 + 16 + 64);
        Due.due("may(6, 1)", x.may(6, 1), 64);
        Due.act(x, 6, 2, Due.MAKE, 4);
        Due.due("may(6, 2)", x.may(6, 2), 1 + 8 + 16 + 64);
    }

    private static void mayOfFaces() {
        ClassStarts x = new ClassStarts();
        x.face(true);
        x.face(true);
        x.bears(1, 0);
        Due.due("may(1, 1), a FACE", x.may(1, 1), 2);
        x.made(Due.NONE);
        Due.act(x, 1, 0, Due.MAKE, 2);
        Due.act(x, 2, 0, Due.CALL, 0, 1);
        Due.due("may(1, 1), by its START", x.may(1, 1), 7);
    }

    private static void mayOfAll() {
        ClassStarts x = Due.classes(12);
        for (int i = 0; i < 12; i++) {
            for (int m = 0; m < 4; m++) {
                Due.act(x, i, m, Due.CALL, (i + 1) % 12, m % 3 + 1);
            }
        }
        for (int m = 0; m < 4; m++) {
            Due.due("may(5, " + m + "), all METHODS", x.may(5, m), 4095);
        }
    }

    private static void mayIsOfNoState() {
        ClassStarts x = Due.classes(3);
        Due.act(x, 0, 1, Due.MAKE, 1);
        Due.act(x, 1, 0, Due.MAKE, 2);
        Due.act(x, 2, 0, Due.THROW, 0);
        Due.due("may(0, 1)", x.may(0, 1), 7);
        Due.due("run(0, 1)", x.run(0, 1), 7);
        Due.due("may(0, 1), when they FAILED", x.may(0, 1), 7);
        Due.due("EVENTS stay", x.count(0), 6);
    }

    private static void aheadRefused() {
        ClassStarts x = new ClassStarts();
        x.made(Due.NONE);
        x.made(0);
        for (int n : Due.WILD) {
            boolean there = n == 0 || n == 1;
            Due.due("ahead(1, " + n + ")", x.ahead(1, n), there ? 1 - n : Due.UNKNOWN);
            Due.due("ahead(" + n + ", 0)", x.ahead(n, 0), there ? n : Due.UNKNOWN);
            Due.due("ahead(" + n + ", " + n + ")", x.ahead(n, n), there ? 0 : Due.UNKNOWN);
        }
    }

    private static void ahead() {
        ClassStarts x = new ClassStarts();
        x.face(true);
        x.face(false);
        x.face(true);
        x.made(Due.NONE);
        x.made(3);
        x.face(true);
        x.made(4);
        x.bears(1, 0);
        x.bears(3, 1);
        x.bears(5, 2);
        x.bears(6, 5);
        int[][] due = {{6, 4, 1}, {6, 3, 1}, {6, 5, 1}, {6, 2, 1}, {6, 0, 1}, {6, 1, 0}, {6, 6, 0}, {4, 6, 0},
            {4, 3, 1}, {4, 0, 1}, {4, 1, 0}, {4, 5, 0}, {3, 0, 1}, {3, 2, 0}, {5, 2, 0}, {1, 0, 0}, {0, 1, 0}};
        for (int[] d : due) {
            Due.due("ahead(" + d[0] + ", " + d[1] + ")", x.ahead(d[0], d[1]), d[2]);
        }
        Due.act(x, 6, 0, Due.MAKE, 3);
        Due.due("ACTS put nothing ahead", x.ahead(3, 6), 0);
        Due.due("state(6)", x.state(6), Due.NOT);
    }
}
