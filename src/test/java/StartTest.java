/** Promises 7, 11 and 15: what is started by what, in which order, what FAILS, and all of it again. */
public final class StartTest {
    public static void main(String[] args) {
        whatWants();
        parentsFirst();
        facesInOrder();
        facesOfFaces();
        faceLooksThroughNothing();
        faceTwice();
        parentFails();
        faceFails();
        failedOnes();
        failsByThrow();
        ring();
        startsAfterACatch();
        stateOf();
        again();
        Due.end();
    }

    private static void whatWants() {
        int[][] acts = {{Due.ADD, 0, 1, 0}, {Due.PUT, 0, 1, 0}, {Due.CALL, 1, 1, 0}, {Due.MAKE, 1, 0, 0}};
        for (int[] a : acts) {
            ClassStarts x = Due.classes(2);
            Due.act(x, 0, 1, a[0], a[1], a[2], a[3]);
            Due.due("run", x.run(0, 1), Due.NONE);
            Due.due("ACT " + a[0] + " WANTS", x.state(1), Due.DONE);
            Due.due("run more", x.run(0, 1), Due.NONE);
            Due.due("and nothing comes of it then", x.count(0), a[0] == Due.CALL ? 1 : 0);
        }
        ClassStarts x = Due.classes(2);
        Due.act(x, 0, 1, Due.DIV, 0, 1, 0);
        Due.due("run by 0", x.run(0, 1), 3);
        Due.due("DIV WANTS", x.state(1), Due.DONE);
        ClassStarts y = Due.classes(2);
        Due.act(y, 0, 1, Due.SET, 0, 1, 1);
        Due.act(y, 0, 1, Due.ROW, 0, 1, 1);
        Due.act(y, 0, 1, Due.IN, 1, 1, 1);
        Due.act(y, 0, 1, Due.OUT, 1, 1, 1);
        Due.act(y, 0, 1, Due.LOG, 1, 1, 1);
        Due.act(y, 0, 1, Due.TRY, 1, 1, 1);
        Due.act(y, 0, 1, Due.DROP, 1, 1, 1);
        Due.due("run", y.run(0, 1), Due.NONE);
        Due.due("the others WANT nothing", y.state(1), Due.NOT);
    }

    private static void parentsFirst() {
        ClassStarts x = new ClassStarts();
        x.made(Due.NONE);
        x.made(0);
        x.made(1);
        for (int i = 0; i < 3; i++) {
            Due.act(x, i, 0, Due.LOG, 10 + i);
        }
        Due.due("run(1, 1)", x.run(1, 1), Due.NONE);
        Due.dueEvents("PARENT", x, 0, 1, 0, 0, 3, 10, 1, 0, 3, 11, 1, 1);
        Due.due("run(2, 1)", x.run(2, 1), Due.NONE);
        Due.dueEvents("PARENT is DONE", x, 0, 2, 3, 12, 1, 2);
        x.again();
        Due.due("run(2, 1)", x.run(2, 1), Due.NONE);
        Due.dueEvents("PARENT's PARENT", x, 0, 2, 0, 1, 0, 0, 3, 10, 1, 0, 3, 11, 1, 1, 3, 12, 1, 2);
    }

    private static void facesInOrder() {
        ClassStarts x = new ClassStarts();
        x.face(true);
        x.face(false);
        x.face(true);
        x.made(Due.NONE);
        x.made(3);
        x.bears(3, 2);
        x.bears(3, 1);
        x.bears(3, 0);
        Due.due("run(4, 1)", x.run(4, 1), Due.NONE);
        Due.dueEvents("FACES as told", x, 0, 4, 0, 3, 0, 2, 1, 2, 0, 0, 1, 0, 1, 3, 1, 4);
        Due.due("state(1), without DEFAULTS", x.state(1), Due.NOT);
        ClassStarts y = new ClassStarts();
        y.face(true);
        y.made(Due.NONE);
        y.made(1);
        y.bears(2, 0);
        Due.due("run(2, 1)", y.run(2, 1), Due.NONE);
        Due.dueEvents("the PARENT ahead of FACES", y, 0, 2, 0, 1, 1, 1, 0, 0, 1, 0, 1, 2);
    }

    private static ClassStarts tower() {
        ClassStarts x = new ClassStarts();
        x.face(true);
        x.face(true);
        x.face(false);
        x.face(true);
        x.made(Due.NONE);
        x.bears(2, 1);
        x.bears(2, 0);
        x.bears(3, 2);
        x.bears(4, 3);
        return x;
    }

    private static void facesOfFaces() {
        ClassStarts x = tower();
        Due.due("run(4, 1)", x.run(4, 1), Due.NONE);
        Due.dueEvents("FACES of FACES first", x, 0, 4, 0, 1, 1, 1, 0, 0, 1, 0, 0, 3, 1, 3, 1, 4);
        Due.due("state(2)", x.state(2), Due.NOT);
        ClassStarts y = new ClassStarts();
        y.face(true);
        for (int i = 1; i < 11; i++) {
            y.face(false);
            y.bears(i, i - 1);
        }
        y.made(Due.NONE);
        y.bears(11, 10);
        Due.due("run(11, 1)", y.run(11, 1), Due.NONE);
        Due.dueEvents("through 11 FACES", y, 0, 11, 0, 0, 1, 0, 1, 11);
        Due.due("ahead(11, 0)", y.ahead(11, 0), 1);
        Due.due("may(11, 1)", y.may(11, 1), 2049);
    }

    private static void faceLooksThroughNothing() {
        ClassStarts x = tower();
        Due.due("run(3, 1)", x.run(3, 1), Due.NONE);
        Due.dueEvents("a FACE's START", x, 0, 3, 1, 3);
        Due.due("run(4, 1)", x.run(4, 1), Due.NONE);
        Due.dueEvents("through a FACE that is DONE", x, 0, 4, 0, 1, 1, 1, 0, 0, 1, 0, 1, 4);
    }

    private static void faceTwice() {
        ClassStarts x = new ClassStarts();
        x.face(true);
        x.face(true);
        x.face(true);
        x.made(Due.NONE);
        x.bears(1, 0);
        x.bears(2, 0);
        x.bears(3, 2);
        x.bears(3, 1);
        x.bears(3, 0);
        Due.due("run(3, 1)", x.run(3, 1), Due.NONE);
        Due.dueEvents("one FACE by three ways", x, 0, 3, 0, 0, 1, 0, 0, 2, 1, 2, 0, 1, 1, 1, 1, 3);
    }

    private static void parentFails() {
        ClassStarts x = new ClassStarts();
        x.face(true);
        x.made(Due.NONE);
        x.made(1);
        x.bears(2, 0);
        Due.act(x, 1, 0, Due.THROW, 2);
        Due.act(x, 2, 0, Due.LOG, 1);
        Due.due("run(2, 1)", x.run(2, 1), 7);
        Due.due("cause()", x.cause(), 2);
        Due.due("throws: 2 and 7, once", x.count(3), 2);
        Due.dueEvents("the PARENT FAILS", x, 0, 2, 0, 1, 2, 1, 2, 2);
        Due.due("state(0), not come to", x.state(0), Due.NOT);
        Due.due("run(2, 1)", x.run(2, 1), 8);
        Due.dueEvents("FAILED, then", x);
    }

    private static void faceFails() {
        ClassStarts x = new ClassStarts();
        x.face(true);
        x.face(true);
        x.made(Due.NONE);
        x.bears(2, 0);
        x.bears(2, 1);
        Due.act(x, 0, 0, Due.OUT, 0, 0);
        Due.due("run(2, 1)", x.run(2, 1), 7);
        Due.due("cause()", x.cause(), 4);
        Due.dueEvents("a FACE FAILS", x, 0, 2, 0, 0, 2, 0, 2, 2);
        Due.due("state(1)", x.state(1), Due.NOT);
    }

    private static void failedOnes() {
        ClassStarts x = new ClassStarts();
        x.made(Due.NONE);
        x.made(0);
        x.made(Due.NONE);
        Due.act(x, 0, 0, Due.THROW, 0);
        Due.act(x, 2, 1, Due.MAKE, 0);
        Due.due("run(0, 1)", x.run(0, 1), 7);
        Due.due("run(2, 1)", x.run(2, 1), 8);
        Due.due("state(2)", x.state(2), Due.DONE);
        Due.due("run(1, 1), the PARENT FAILED before", x.run(1, 1), 8);
        Due.due("cause()", x.cause(), Due.NONE);
        Due.due("throws", x.count(3), 1);
        Due.dueEvents("8 makes FAILED too", x, 0, 1, 2, 1);
        Due.due("state(1)", x.state(1), Due.FAILED);
    }

    private static void failsByThrow() {
        for (int t = 0; t < 3; t++) {
            ClassStarts x = Due.classes(2);
            Due.act(x, 0, 0, Due.SET, 0, 5);
            Due.act(x, 0, 0, Due.CALL, 1, 1);
            Due.act(x, 1, 1, Due.THROW, t);
            Due.due("run(0, 1)", x.run(0, 1), 7);
            Due.due("cause()", x.cause(), t);
            Due.due("state(0)", x.state(0), Due.FAILED);
            Due.due("state(1)", x.state(1), Due.DONE);
            Due.due("what it did stays", x.field(0, 0), 5);
        }
        ClassStarts y = Due.classes(1);
        Due.act(y, 0, 0, Due.TRY, 1, 1);
        Due.act(y, 0, 0, Due.THROW, 1);
        Due.due("caught in the START", y.run(0, 1), Due.NONE);
        Due.due("state(0)", y.state(0), Due.DONE);
    }

    private static void ring() {
        ClassStarts x = new ClassStarts();
        x.made(Due.NONE);
        x.made(0);
        Due.act(x, 0, 0, Due.SET, 0, 1);
        Due.act(x, 0, 0, Due.CALL, 1, 1);
        Due.act(x, 1, 0, Due.SET, 0, 2);
        Due.act(x, 1, 1, Due.ADD, 1, 1, 0);
        Due.act(x, 1, 1, Due.LOG, 9);
        Due.due("run(1, 1)", x.run(1, 1), Due.NONE);
        Due.dueEvents("one IN WORK is entered", x, 0, 1, 0, 0, 4, 11, 3, 9, 1, 0, 1, 1, 3, 9);
        Due.due("field(1, 1)", x.field(1, 1), 2);
        x.again();
        Due.due("run(0, 1)", x.run(0, 1), Due.NONE);
        Due.dueEvents("the PARENT is IN WORK", x, 0, 0, 0, 1, 1, 1, 4, 11, 3, 9, 1, 0);
    }

    private static void startsAfterACatch() {
        ClassStarts x = Due.classes(3);
        Due.act(x, 1, 0, Due.THROW, 0);
        Due.act(x, 0, 0, Due.TRY, 1, 7);
        Due.act(x, 0, 0, Due.MAKE, 1);
        Due.act(x, 0, 0, Due.TRY, 1, 8);
        Due.act(x, 0, 0, Due.MAKE, 1);
        Due.act(x, 0, 0, Due.MAKE, 2);
        Due.due("run(0, 1)", x.run(0, 1), Due.NONE);
        Due.dueEvents("caught", x, 0, 0, 0, 1, 2, 1, 0, 2, 1, 2, 1, 0);
        Due.due("throws", x.count(3), 3);
    }

    private static void stateOf() {
        ClassStarts x = Due.classes(1);
        Due.due("state(1)", x.state(1), Due.UNKNOWN);
        Due.due("state(-1)", x.state(-1), Due.UNKNOWN);
        Due.due("state(MAX)", x.state(Integer.MAX_VALUE), Due.UNKNOWN);
    }

    private static void again() {
        ClassStarts x = Due.classes(4);
        x.constant(0, 3, 17);
        Due.act(x, 0, 0, Due.SET, 0, 3);
        Due.act(x, 0, 0, Due.ROW, 0);
        Due.act(x, 0, 0, Due.SET, 1, 1);
        Due.act(x, 0, 0, Due.IN, 1, 0);
        Due.act(x, 1, 0, Due.SET, 2, 9);
        Due.act(x, 1, 0, Due.THROW, 0);
        Due.act(x, 2, 1, Due.MAKE, 0);
        Due.act(x, 2, 1, Due.MAKE, 1);
        Due.due("again(), all NOT", x.again(), 0);
        Due.due("run(2, 1)", x.run(2, 1), 7);
        Due.due("field(1, 2)", x.field(1, 2), 9);
        Due.due("item(0, 1)", x.item(0, 1), 3);
        Due.due("again()", x.again(), 3);
        for (int i = 0; i < 4; i++) {
            Due.due("state(" + i + ")", x.state(i), Due.NOT);
            Due.due("row(" + i + ")", x.row(i), Due.NONE);
            for (int f = 0; f < 4; f++) {
                Due.due("field(" + i + ", " + f + ")", x.field(i, f), i == 0 && f == 3 ? 17 : 0);
            }
        }
        Due.due("item(0, 1)", x.item(0, 1), 0);
        Due.due("again() at once", x.again(), 0);
        Due.due("count(0) stays", x.count(0), 6);
        Due.due("cause() stays", x.cause(), 0);
        Due.due("run(2, 1)", x.run(2, 1), 7);
        Due.due("what was FAILED is started", x.state(1), Due.FAILED);
    }
}
