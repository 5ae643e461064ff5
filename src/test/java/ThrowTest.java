/** The THROWS 0 .. 2 and 7 .. 10, sentence by sentence; 3 .. 6 are in WorkTest. */
public final class ThrowTest {
    public static void main(String[] args) {
        hold();
        Due.end();
    }

    static void hold() {
        Sentence.holds(Sentence.ACTS, "9 THROW a (0 .. 2).", ThrowTest::throwAct);
        Sentence.holds(Sentence.ACTS, "THROWS: 0 .. 2 by THROW.", ThrowTest::byThrow);
        Sentence.holds(Sentence.ACTS, "7 a START failed by 0 .. 6", ThrowTest::startFailed);
        Sentence.holds(Sentence.ACTS, "(its CAUSE).", ThrowTest::itsCause);
        Sentence.holds(Sentence.ACTS, "8 of one whose START FAILED.", ThrowTest::failedBefore);
        Sentence.holds(Sentence.ACTS, "9 a METHOD (of a CALL behind what that WANTS,", ThrowTest::callBehindItsWant);
        Sentence.holds(Sentence.ACTS, "of a START)", ThrowTest::startWithin);
        Sentence.holds(Sentence.ACTS, "of a START)", ThrowTest::parentsAreNotWithin);
        Sentence.holds(Sentence.ACTS, "that would lie within 8 others that are worked.", ThrowTest::withinEight);
        Sentence.holds(Sentence.ACTS, "that would lie within 8 others that are worked.", ThrowTest::notThoseThatEnded);
        Sentence.holds(Sentence.ACTS, "10 WORK: the 81st ACT of a run()", ThrowTest::theEightyFirst);
        Sentence.holds(Sentence.ACTS, "(each that begins counts,", ThrowTest::eachThatBegins);
        Sentence.holds(Sentence.ACTS, "TRY too);", ThrowTest::tryCounts);
        Sentence.holds(Sentence.ACTS, "nothing catches it.", ThrowTest::nothingCatchesWork);
    }

    private static void throwAct() {
        for (int a : Due.WILD) {
            ClassStarts x = Due.classes(1);
            boolean fits = a >= 0 && a <= 2;
            Due.due("THROW " + a, x.act(0, 1, Due.THROW, a, 0, 0), fits ? 1 : Due.OUTSIDE);
            Due.due("run(0, 1)", x.run(0, 1), fits ? a : Due.NONE);
        }
    }

    private static void byThrow() {
        for (int a = 0; a <= 2; a++) {
            ClassStarts x = Due.classes(1);
            Due.act(x, 0, 1, Due.THROW, a);
            Due.act(x, 0, 1, Due.LOG, 1);
            Due.due("run(0, 1)", x.run(0, 1), a);
            Due.due("cause()", x.cause(), Due.NONE);
            Due.dueEvents("thrown " + a, x, 0, 0, 1, 0);
            Due.due("ACTS", x.count(2), 1);
            Due.due("throws", x.count(3), 1);
            Due.due("state(0)", x.state(0), Due.DONE);
        }
    }

    /** The START of this one throws 0 .. 6. */
    private static void throwInStart(ClassStarts x, int kind, int thrown) {
        switch (thrown) {
            case 3: Due.act(x, kind, 0, Due.DIV, 0, kind, 1); break;
            case 4: Due.act(x, kind, 0, Due.IN, 0, 0); break;
            case 5: Due.act(x, kind, 0, Due.ROW, 0); Due.act(x, kind, 0, Due.OUT, 0, 0); break;
            case 6: Due.act(x, kind, 0, Due.SET, 0, -1); Due.act(x, kind, 0, Due.ROW, 0); break;
            default: Due.act(x, kind, 0, Due.THROW, thrown); break;
        }
    }

    private static void startFailed() {
        for (int thrown = 0; thrown <= 6; thrown++) {
            ClassStarts x = Due.kinds("CF");
            for (int kind = 0; kind < 2; kind++) {
                throwInStart(x, kind, thrown);
                Due.due("run(" + kind + ", 1), " + thrown + " in the START", x.run(kind, 1), 7);
                Due.due("state(" + kind + ")", x.state(kind), Due.FAILED);
                Due.due("throws", x.count(3), 2);
            }
        }
        ClassStarts y = Due.kinds("CPP");
        throwInStart(y, 0, 6);
        Due.due("run(2, 1), the first of all FAILS", y.run(2, 1), 7);
        Due.due("throws, 7 becomes no other one", y.count(3), 2);
        ClassStarts z = Due.classes(1);
        throwInStart(z, 0, 0);
        Due.due("run(0, 1)", z.run(0, 1), 7);
        z.again();
        Due.due("run(0, 1) after again()", z.run(0, 1), 7);
    }

    private static void itsCause() {
        for (int thrown = 0; thrown <= 6; thrown++) {
            ClassStarts x = Due.kinds("CPC");
            throwInStart(x, 0, thrown);
            Due.act(x, 2, 0, Due.CALL, 1, 1);
            Due.due("run(2, 1)", x.run(2, 1), 7);
            Due.due("cause(), through three STARTS", x.cause(), thrown);
        }
    }

    private static void failedBefore() {
        int[][] wants = {{Due.ADD, 0, 0, 0}, {Due.PUT, 0, 0, 0}, {Due.DIV, 0, 0, 0}, {Due.CALL, 0, 1, 0},
            {Due.MAKE, 0, 0, 0}};
        for (int[] a : wants) {
            ClassStarts x = Due.classes(2);
            throwInStart(x, 0, 0);
            Due.act(x, 1, 1, a[0], a[1], a[2], a[3]);
            Due.due("run(0, 1)", x.run(0, 1), 7);
            for (int times = 0; times < 2; times++) {
                Due.due("run(1, 1), ACT " + a[0], x.run(1, 1), 8);
                Due.due("cause()", x.cause(), Due.NONE);
                Due.due("throws", x.count(3), 1);
                Due.due("run(0, 1)", x.run(0, 1), 8);
            }
        }
        ClassStarts y = Due.kinds("CPF");
        Due.act(y, 2, 0, Due.MAKE, 0);
        throwInStart(y, 0, 0);
        y.run(0, 1);
        Due.due("run(1, 1), of a PARENT that FAILED", y.run(1, 1), 8);
        Due.due("state(1)", y.state(1), Due.FAILED);
        Due.due("throws, 8 becomes no 7", y.count(3), 1);
        Due.due("run(2, 1), a START that WANTS it", y.run(2, 1), 8);
        Due.due("state(2)", y.state(2), Due.FAILED);
    }

    /** Eight METHODS, one within the other, and this ACT in the eighth; 3 and its child 4 are not in them. */
    private static ClassStarts deep(int sort, int a, int b) {
        ClassStarts x = Due.chain(8);
        x.made(Due.NONE);
        x.made(3);
        Due.act(x, 2, 2, sort, a, b);
        return x;
    }

    private static void callBehindItsWant() {
        ClassStarts done = deep(Due.CALL, 3, 1);
        Due.due("run(3, 1)", done.run(3, 1), Due.NONE);
        Due.due("a CALL of one that is DONE", done.run(0, 1), 9);
        Due.due("state(3)", done.state(3), Due.DONE);
        Due.due("throws", done.count(3), 1);
        Due.due("the last EVENT is the 8th METHOD's", done.event(done.count(0) - 1, 1), 22);
        ClassStarts failed = deep(Due.CALL, 3, 1);
        Due.act(failed, 3, 0, Due.THROW, 0);
        failed.run(3, 1);
        Due.due("a CALL of one that FAILED", failed.run(0, 1), 8);
        ClassStarts not = deep(Due.CALL, 3, 1);
        Due.due("a CALL of one that is NOT", not.run(0, 1), 9);
        Due.due("state(3), its START was begun", not.state(3), Due.FAILED);
        Due.due("throws", not.count(3), 1);
    }

    private static void startWithin() {
        ClassStarts x = deep(Due.MAKE, 3, 0);
        Due.act(x, 3, 0, Due.LOG, 5);
        Due.due("a START within 8 METHODS", x.run(0, 1), 9);
        Due.due("cause()", x.cause(), Due.NONE);
        Due.due("state(3)", x.state(3), Due.FAILED);
        Due.due("throws, 9 becomes no 7", x.count(3), 1);
        int n = x.count(0);
        Due.due("it began", x.event(n - 2, 0) * 100 + x.event(n - 2, 1), 3);
        Due.due("it FAILED", x.event(n - 1, 0) * 100 + x.event(n - 1, 1), 203);
        ClassStarts y = deep(Due.MAKE, 4, 0);
        Due.due("a START of no ACTS within 8 METHODS", y.run(0, 1), 9);
        Due.due("state(3), its PARENT's", y.state(3), Due.FAILED);
        Due.due("state(4)", y.state(4), Due.FAILED);
        ClassStarts z = Due.chain(7);
        z.made(Due.NONE);
        Due.act(z, 2, 1, Due.MAKE, 3);
        Due.act(z, 3, 0, Due.LOG, 5);
        Due.due("a START within 7 METHODS", z.run(0, 1), Due.NONE);
        Due.due("state(3)", z.state(3), Due.DONE);
        for (int starts = 7; starts <= 12; starts++) {
            ClassStarts s = Due.classes(starts);
            for (int i = 0; i + 1 < starts; i++) {
                Due.act(s, i, 0, Due.MAKE, i + 1);
            }
            Due.due(starts + " STARTS, one within the other", s.run(0, 1), starts <= 8 ? Due.NONE : 9);
            for (int i = 0; i < starts; i++) {
                Due.due("state(" + i + ")", s.state(i), starts <= 8 ? Due.DONE : i <= 8 ? Due.FAILED : Due.NOT);
            }
        }
    }

    /** A PARENT's METHOD 0 ends before the one below begins, and so does that of a FACE. */
    private static void parentsAreNotWithin() {
        ClassStarts x = Due.kinds("CPPPPPPPPPPP");
        for (int i = 0; i < 12; i++) {
            Due.act(x, i, 0, Due.LOG, i);
        }
        Due.due("twelve, each the PARENT of the next", x.run(11, 1), Due.NONE);
        Due.due("ACTS", x.count(2), 12);
        ClassStarts y = Due.kinds("FFFFCPPPPC");
        for (int i = 1; i < 4; i++) {
            y.bears(i, i - 1);
        }
        y.bears(8, 3);
        Due.act(y, 9, 1, Due.CALL, 9, 2);
        Due.act(y, 9, 2, Due.CALL, 9, 3);
        Due.act(y, 9, 3, Due.MAKE, 8);
        Due.due("five CLASSES and four FACES in a METHOD", y.run(9, 1), Due.NONE);
        Due.due("EVENTS", y.count(0), 2 + 2 + 18);
        ClassStarts z = Due.chain(7);
        z.face(true);
        z.made(Due.NONE);
        z.made(4);
        z.bears(4, 3);
        Due.act(z, 2, 1, Due.MAKE, 5);
        Due.due("a PARENT and its FACE within 7 METHODS", z.run(0, 1), Due.NONE);
        Due.due("state(3), of the FACE", z.state(3), Due.DONE);
        Due.due("state(5)", z.state(5), Due.DONE);
    }

    private static void withinEight() {
        for (int methods = 1; methods <= 12; methods++) {
            ClassStarts x = Due.chain(methods);
            Due.due(methods + " METHODS, one within the other", x.run(0, 1), methods <= 8 ? Due.NONE : 9);
            Due.due("ACTS", x.count(2), Math.min(methods - 1, 8));
            Due.due("throws", x.count(3), methods <= 8 ? 0 : 1);
        }
        ClassStarts nine = Due.chain(9);
        nine.run(0, 1);
        Due.dueEvents("the 9th is not entered", nine, 0, 0, 1, 0, 4, 2, 4, 3, 0, 1, 1, 1, 4, 11, 4, 12, 4, 13,
            0, 2, 1, 2, 4, 21, 4, 22);
        ClassStarts start = Due.chain(8);
        start.made(Due.NONE);
        Due.act(start, 3, 0, Due.CALL, 0, 1);
        Due.due("METHOD 0 of a START is worked too", start.run(3, 1), 9);
    }

    private static void notThoseThatEnded() {
        ClassStarts x = Due.chain(8);
        x.made(Due.NONE);
        Due.act(x, 3, 1, Due.CALL, 0, 2);
        Due.act(x, 3, 1, Due.CALL, 0, 2);
        Due.act(x, 3, 1, Due.TRY, 1, 9);
        Due.act(x, 3, 1, Due.CALL, 0, 1);
        Due.act(x, 3, 1, Due.CALL, 0, 2);
        Due.due("eight METHODS, again and again", x.run(3, 1), Due.NONE);
        Due.due("throws, one too deep", x.count(3), 1);
        ClassStarts y = Due.classes(1);
        Due.act(y, 0, 1, Due.TRY, 1, 9);
        Due.act(y, 0, 1, Due.CALL, 0, 1);
        Due.act(y, 0, 1, Due.LOG, 5);
        Due.due("caught in the eighth", y.run(0, 1), Due.NONE);
        Due.due("ACTS", y.count(2), 24);
        Due.due("throws", y.count(3), 1);
        Due.due("EVENTS", y.count(0), 2 + 7 + 8);
    }

    private static void theEightyFirst() {
        ClassStarts x = Due.busy(8, 9);
        Due.due("80 ACTS", x.run(0, 1), Due.NONE);
        Due.due("count(2)", x.count(2), 80);
        Due.act(x, 1, 1, Due.CALL, 0, 1);
        Due.due("81 ACTS", x.run(1, 1), 10);
        Due.due("count(2)", x.count(2), 80);
        Due.due("the next run() has 80 ACTS of its own", x.run(0, 1), Due.NONE);
        ClassStarts y = Due.busy(7, 10);
        Due.act(y, 0, 1, Due.SET, 0, 1);
        Due.act(y, 0, 1, Due.SET, 1, 1);
        Due.act(y, 0, 1, Due.SET, 2, 1);
        Due.due("77 ACTS and 3", y.run(0, 1), Due.NONE);
        Due.act(y, 1, 0, Due.LOG, 1);
        Due.act(y, 1, 1, Due.CALL, 0, 1);
        y.again();
        Due.due("82 ACTS, one in a START", y.run(1, 1), 10);
        Due.due("the last one that is worked", y.field(0, 0), 1);
        Due.due("the 81st does nothing", y.field(0, 1), 0);
        Due.due("state(0)", y.state(0), Due.DONE);
    }

    private static void eachThatBegins() {
        ClassStarts x = Due.busy(7, 10);
        Due.act(x, 0, 1, Due.TRY, 1, 0);
        Due.act(x, 0, 1, Due.THROW, 0);
        Due.act(x, 0, 1, Due.LOG, 1);
        Due.due("one that throws counts", x.run(0, 1), Due.NONE);
        Due.due("count(2)", x.count(2), 80);
        ClassStarts y = Due.busy(8, 10);
        Due.act(y, 1, 0, Due.CALL, 0, 1);
        Due.due("those that a START works count", y.run(1, 1), 10);
        Due.due("state(1)", y.state(1), Due.FAILED);
        Due.due("cause(), 10 becomes no 7", y.cause(), Due.NONE);
        Due.due("throws", y.count(3), 0);
        Due.due("run(1, 1)", y.run(1, 1), 8);
        ClassStarts z = Due.classes(1);
        Due.act(z, 0, 1, Due.TRY, 3, 0);
        Due.act(z, 0, 1, Due.THROW, 0);
        Due.logs(z, 0, 1, 1, 5);
        Due.due("run(0, 1)", z.run(0, 1), Due.NONE);
        Due.due("those that never begin do not count", z.count(2), 5);
    }

    private static void tryCounts() {
        ClassStarts x = Due.busy(7, 10);
        Due.logs(x, 0, 1, 1, 2);
        Due.act(x, 0, 1, Due.TRY, 1, Due.NONE);
        Due.due("the 80th is a TRY", x.run(0, 1), Due.NONE);
        Due.due("count(2)", x.count(2), 80);
        Due.act(x, 1, 1, Due.CALL, 0, 1);
        Due.due("the 81st is a TRY", x.run(1, 1), 10);
        Due.due("count(2)", x.count(2), 80);
    }

    private static void nothingCatchesWork() {
        for (int by = Due.NONE; by <= 9; by++) {
            ClassStarts x = Due.busy(8, 10);
            Due.act(x, 1, 1, Due.TRY, 9, by);
            Due.act(x, 1, 1, Due.TRY, 8, Due.NONE);
            Due.act(x, 1, 1, Due.CALL, 0, 1);
            Due.act(x, 1, 1, Due.SET, 0, 1);
            Due.due("10 in a TRY by " + by, x.run(1, 1), 10);
            Due.due("count(2)", x.count(2), 80);
            Due.due("nothing is worked behind it", x.field(1, 0), 0);
        }
    }
}
