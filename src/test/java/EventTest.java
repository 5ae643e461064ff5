/** EVENTS, and promises 8, 9 and 10: what is told of the latest run(). */
public final class EventTest {
    public static void main(String[] args) {
        hold();
        Due.end();
    }

    static void hold() {
        Sentence.holds(Sentence.EVENTS, "EVENTS of a run(), the first 60:", EventTest::theFirstSixty);
        Sentence.holds(Sentence.EVENTS, "0 X's START begins (it is IN WORK),", EventTest::begins);
        Sentence.holds(Sentence.EVENTS, "1 X is DONE,", EventTest::done);
        Sentence.holds(Sentence.EVENTS, "2 FAILED,", EventTest::failed);
        Sentence.holds(Sentence.EVENTS, "3 a LOG,", EventTest::logged);
        Sentence.holds(Sentence.EVENTS, "4 an ACT CALL enters a METHOD.", EventTest::entered);

        Sentence.holds(8, "The CAUSE, when the latest run() ended by 7;", EventTest::cause);
        Sentence.holds(8, "The CAUSE, when the latest run() ended by 7;", EventTest::causeOfTwo);
        Sentence.holds(8, "NONE.", EventTest::noCause);

        Sentence.holds(9, "How many of the latest run():", EventTest::ofTheLatest);
        Sentence.holds(9, "0 EVENTS (60 at most),", EventTest::sixtyEvents);
        Sentence.holds(9, "1 HALF SEEN,", EventTest::halfSeen);
        Sentence.holds(9, "2 ACTS (80 at most),", EventTest::eightyActs);
        Sentence.holds(9, "3 throws (of 0 .. 9,", EventTest::throwsButTen);
        Sentence.holds(9, "as they arose;", EventTest::asTheyArose);
        Sentence.holds(9, "one that becomes 7 counts again).", EventTest::sevenCountsAgain);
        Sentence.holds(9, "OUTSIDE.", EventTest::countOutside);

        Sentence.holds(10, "Of EVENT i: its sort (what = 0);", EventTest::sortOfEvent);
        Sentence.holds(10, "X, of a LOG its number,", EventTest::numberOfEvent);
        Sentence.holds(10, "of a CALL 10 times the other one and the METHOD (1).", EventTest::numberOfCall);
        Sentence.holds(10, "0: there is none such.", EventTest::noSuchEvent);
    }

    private static void dueRun(ClassStarts x, int kind, int method, int want) {
        Due.due("run(" + kind + ", " + method + ")", x.run(kind, method), want);
    }

    /** METHOD 1 of 0 has 58 EVENTS, the last of them LOG 903; 2 more are of its START. */
    private static ClassStarts sixty() {
        ClassStarts x = Due.busy(6, 8);
        Due.logs(x, 0, 1, 900, 903);
        return x;
    }

    private static void theFirstSixty() {
        ClassStarts x = sixty();
        dueRun(x, 0, 1, Due.NONE);
        Due.due("the 60th", x.event(59, 1), 903);
        Due.logs(x, 1, 1, 1, 1);
        Due.act(x, 1, 1, Due.CALL, 0, 1);
        Due.logs(x, 1, 1, 2, 2);
        dueRun(x, 1, 1, Due.NONE);
        Due.due("the 60th of 63", x.event(59, 1), 901);
        Due.due("the first of 63", x.event(0, 1), 1);
        Due.due("ACTS behind the 60th are worked", x.count(2), 61);
        ClassStarts y = sixty();
        Due.act(y, 1, 1, Due.CALL, 0, 1);
        y.made(Due.NONE);
        Due.act(y, 1, 1, Due.MAKE, 2);
        dueRun(y, 1, 1, Due.NONE);
        Due.due("what is DONE behind the 60th is DONE", y.state(2), Due.DONE);
    }

    private static void begins() {
        ClassStarts x = Due.kinds("FCP");
        x.bears(2, 0);
        dueRun(x, 2, 1, Due.NONE);
        Due.dueEvents("each START once", x, 0, 2, 0, 1, 1, 1, 0, 0, 1, 0, 1, 2);
        dueRun(x, 2, 1, Due.NONE);
        Due.dueEvents("none of one that is DONE", x);
        ClassStarts y = Due.chain(8);
        y.made(Due.NONE);
        Due.act(y, 2, 2, Due.MAKE, 3);
        dueRun(y, 0, 1, 9);
        Due.due("it begins, though its METHOD 0 is too deep", y.event(y.count(0) - 2, 1), 3);
        Due.due("its sort", y.event(y.count(0) - 2, 0), 0);
    }

    private static void done() {
        ClassStarts x = Due.classes(1);
        Due.act(x, 0, 0, Due.LOG, 1);
        Due.act(x, 0, 1, Due.LOG, 2);
        dueRun(x, 0, 1, Due.NONE);
        Due.dueEvents("behind METHOD 0", x, 0, 0, 3, 1, 1, 0, 3, 2);
    }

    private static void failed() {
        ClassStarts x = Due.kinds("CP");
        Due.act(x, 0, 0, Due.LOG, 1);
        Due.act(x, 0, 0, Due.THROW, 0);
        dueRun(x, 1, 1, 7);
        Due.dueEvents("one after the other", x, 0, 1, 0, 0, 3, 1, 2, 0, 2, 1);
        dueRun(x, 1, 1, 8);
        Due.dueEvents("not told again", x);
        ClassStarts y = Due.busy(8, 0);
        for (int i = 0; i < 10; i++) {
            Due.act(y, 0, 2, Due.SET, 0, i);
        }
        Due.act(y, 1, 0, Due.CALL, 0, 1);
        dueRun(y, 1, 1, 10);
        Due.dueEvents("FAILED by 10", y, 0, 1, 0, 0, 1, 0, 4, 1, 4, 2, 4, 2, 4, 2, 4, 2, 4, 2, 4, 2, 4, 2, 4, 2, 2, 1);
        ClassStarts z = Due.classes(1);
        Due.act(z, 0, 0, Due.CALL, 0, 1);
        Due.act(z, 0, 1, Due.CALL, 0, 1);
        dueRun(z, 0, 1, 9);
        Due.dueEvents("FAILED by 9", z, 0, 0, 4, 1, 4, 1, 4, 1, 4, 1, 4, 1, 4, 1, 4, 1, 2, 0);
    }

    private static void logged() {
        ClassStarts x = Due.classes(1);
        for (int number : new int[] {Due.MIN, -1, 0, 1, Due.MAX}) {
            Due.act(x, 0, 1, Due.LOG, number);
        }
        dueRun(x, 0, 1, Due.NONE);
        Due.dueEvents("LOGS", x, 0, 0, 1, 0, 3, Due.MIN, 3, -1, 3, 0, 3, 1, 3, Due.MAX);
    }

    private static void entered() {
        ClassStarts x = Due.kinds("FC");
        Due.act(x, 1, 1, Due.CALL, 0, 3);
        Due.act(x, 1, 1, Due.CALL, 1, 2);
        dueRun(x, 1, 1, Due.NONE);
        Due.dueEvents("behind what it WANTS", x, 0, 1, 1, 1, 0, 0, 1, 0, 4, 3, 4, 12);
        ClassStarts y = Due.classes(2);
        Due.act(y, 0, 0, Due.THROW, 0);
        Due.act(y, 1, 1, Due.CALL, 0, 1);
        dueRun(y, 1, 1, 7);
        Due.dueEvents("not if that throws", y, 0, 1, 1, 1, 0, 0, 2, 0);
        dueRun(y, 1, 1, 8);
        Due.dueEvents("not if it FAILED before", y);
        ClassStarts z = Due.classes(1);
        Due.act(z, 0, 1, Due.CALL, 0, 1);
        dueRun(z, 0, 1, 9);
        Due.dueEvents("not if it is too deep, nor by run()", z, 0, 0, 1, 0, 4, 1, 4, 1, 4, 1, 4, 1, 4, 1, 4, 1, 4, 1);
    }

    private static void cause() {
        ClassStarts x = Due.classes(3);
        Due.act(x, 0, 2, Due.THROW, 0);
        Due.act(x, 2, 0, Due.MAKE, 0);
        Due.act(x, 2, 0, Due.CALL, 0, 2);
        dueRun(x, 2, 1, 7);
        Due.due("cause(), of a CALL in a START", x.cause(), 0);
        Due.due("cause() once more", x.cause(), 0);
        Due.due("a refused run()", x.run(9, 1), Due.UNKNOWN);
        Due.due("a refused run()", x.run(0, 0), Due.OUTSIDE);
        Due.due("cause() of the latest one that was not", x.cause(), 0);
        x.again();
        Due.due("cause() after again()", x.cause(), 0);
        dueRun(x, 0, 3, Due.NONE);
        Due.due("cause() of a later run()", x.cause(), Due.NONE);
    }

    private static void causeOfTwo() {
        ClassStarts x = Due.classes(3);
        Due.act(x, 1, 0, Due.THROW, 1);
        Due.act(x, 2, 0, Due.IN, 0, 0);
        Due.act(x, 0, 1, Due.TRY, 1, 7);
        Due.act(x, 0, 1, Due.MAKE, 1);
        Due.act(x, 0, 1, Due.MAKE, 2);
        dueRun(x, 0, 1, 7);
        Due.due("cause(), of the one that was not caught", x.cause(), 4);
    }

    private static void noCause() {
        ClassStarts x = Due.classes(4);
        Due.due("no run() yet", x.cause(), Due.NONE);
        Due.act(x, 1, 0, Due.THROW, 1);
        Due.act(x, 0, 1, Due.TRY, 1, 7);
        Due.act(x, 0, 1, Due.MAKE, 1);
        Due.act(x, 0, 1, Due.THROW, 2);
        Due.act(x, 2, 1, Due.CALL, 2, 1);
        Due.act(x, 3, 1, Due.TRY, 1, 7);
        Due.act(x, 3, 1, Due.MAKE, 1);
        dueRun(x, 0, 1, 2);
        Due.due("7 was caught, it ended by 2", x.cause(), Due.NONE);
        dueRun(x, 1, 1, 8);
        Due.due("it ended by 8", x.cause(), Due.NONE);
        dueRun(x, 2, 1, 9);
        Due.due("it ended by 9", x.cause(), Due.NONE);
        x.again();
        dueRun(x, 3, 1, Due.NONE);
        Due.due("7 was caught, it ended by NONE", x.cause(), Due.NONE);
        ClassStarts y = Due.busy(8, 10);
        Due.act(y, 1, 0, Due.CALL, 0, 1);
        dueRun(y, 1, 1, 10);
        Due.due("it ended by 10", y.cause(), Due.NONE);
    }

    private static void ofTheLatest() {
        ClassStarts x = Due.classes(2);
        Due.act(x, 0, 0, Due.CALL, 1, 1);
        Due.act(x, 1, 1, Due.ADD, 0, 0, 0);
        Due.act(x, 0, 1, Due.THROW, 0);
        dueRun(x, 0, 1, 0);
        int[] first = {5, 1, 3, 1};
        for (int what = 0; what < 4; what++) {
            Due.due("count(" + what + ")", x.count(what), first[what]);
        }
        dueRun(x, 0, 1, 0);
        int[] second = {0, 0, 1, 1};
        for (int what = 0; what < 4; what++) {
            Due.due("count(" + what + ") of the second", x.count(what), second[what]);
        }
        x.again();
        x.may(0, 1);
        x.ahead(0, 1);
        for (int what = 0; what < 4; what++) {
            Due.due("count(" + what + ") after other calls", x.count(what), second[what]);
        }
    }

    private static void sixtyEvents() {
        ClassStarts less = Due.busy(6, 8);
        Due.logs(less, 0, 1, 1, 3);
        dueRun(less, 0, 1, Due.NONE);
        Due.due("59", less.count(0), 59);
        ClassStarts x = sixty();
        dueRun(x, 0, 1, Due.NONE);
        Due.due("60", x.count(0), 60);
        Due.act(x, 1, 1, Due.CALL, 0, 1);
        dueRun(x, 1, 1, Due.NONE);
        Due.due("61", x.count(0), 60);
        ClassStarts more = Due.busy(8, 9);
        dueRun(more, 0, 1, Due.NONE);
        Due.due("82", more.count(0), 60);
    }

    private static void halfSeen() {
        ClassStarts x = Due.classes(2);
        Due.act(x, 0, 0, Due.SET, 0, 1);
        for (int i = 0; i < 9; i++) {
            Due.act(x, 0, 0, Due.CALL, 1, 1);
        }
        for (int i = 0; i < 3; i++) {
            Due.act(x, 1, 1, Due.ADD, 1, 0, 0);
            Due.act(x, 1, 1, Due.DIV, 2, 0, 0);
        }
        dueRun(x, 0, 1, Due.NONE);
        Due.due("nine times six", x.count(1), 54);
        dueRun(x, 1, 1, Due.NONE);
        Due.due("of one that is DONE", x.count(1), 0);
    }

    private static void eightyActs() {
        ClassStarts none = Due.classes(1);
        dueRun(none, 0, 1, Due.NONE);
        Due.due("none", none.count(2), 0);
        ClassStarts less = Due.busy(7, 10);
        Due.logs(less, 0, 1, 1, 2);
        dueRun(less, 0, 1, Due.NONE);
        Due.due("79", less.count(2), 79);
        ClassStarts eighty = Due.busy(8, 9);
        dueRun(eighty, 0, 1, Due.NONE);
        Due.due("80", eighty.count(2), 80);
        ClassStarts more = Due.busy(8, 10);
        dueRun(more, 0, 1, 10);
        Due.due("the 81st is not counted", more.count(2), 80);
    }

    private static void throwsButTen() {
        ClassStarts ten = Due.busy(8, 10);
        dueRun(ten, 0, 1, 10);
        Due.due("10 is none", ten.count(3), 0);
        ClassStarts nine = Due.classes(1);
        Due.act(nine, 0, 1, Due.CALL, 0, 1);
        dueRun(nine, 0, 1, 9);
        Due.due("9 is one", nine.count(3), 1);
        ClassStarts zero = Due.classes(1);
        Due.act(zero, 0, 1, Due.THROW, 0);
        dueRun(zero, 0, 1, 0);
        Due.due("0 is one", zero.count(3), 1);
        ClassStarts rows = Due.classes(1);
        Due.act(rows, 0, 1, Due.TRY, 1, 3);
        Due.act(rows, 0, 1, Due.DIV, 0, 0, 0);
        Due.act(rows, 0, 1, Due.TRY, 1, 4);
        Due.act(rows, 0, 1, Due.IN, 0, 0);
        Due.act(rows, 0, 1, Due.ROW, 0);
        Due.act(rows, 0, 1, Due.TRY, 1, 5);
        Due.act(rows, 0, 1, Due.OUT, 0, 0);
        Due.act(rows, 0, 1, Due.SET, 0, -1);
        Due.act(rows, 0, 1, Due.ROW, 0);
        dueRun(rows, 0, 1, 6);
        Due.due("3, 4, 5 and 6", rows.count(3), 4);
    }

    private static void asTheyArose() {
        ClassStarts x = Due.chain(4);
        Due.act(x, 1, 1, Due.THROW, 1);
        dueRun(x, 0, 1, 1);
        Due.due("one that goes on through METHODS is one", x.count(3), 1);
        ClassStarts y = Due.classes(1);
        for (int i = 0; i < 5; i++) {
            Due.act(y, 0, 1, Due.TRY, 1, 0);
            Due.act(y, 0, 1, Due.THROW, 0);
        }
        dueRun(y, 0, 1, Due.NONE);
        Due.due("five that are caught", y.count(3), 5);
    }

    private static void sevenCountsAgain() {
        ClassStarts x = Due.kinds("CPPC");
        Due.act(x, 0, 0, Due.THROW, 0);
        Due.act(x, 3, 1, Due.TRY, 1, 7);
        Due.act(x, 3, 1, Due.MAKE, 2);
        Due.act(x, 3, 1, Due.MAKE, 0);
        dueRun(x, 2, 1, 7);
        Due.due("0 and 7, through three STARTS", x.count(3), 2);
        x.again();
        dueRun(x, 3, 1, 8);
        Due.due("0, 7 and 8", x.count(3), 3);
        ClassStarts y = Due.classes(2);
        Due.act(y, 0, 0, Due.THROW, 0);
        Due.act(y, 1, 0, Due.TRY, 1, 7);
        Due.act(y, 1, 0, Due.MAKE, 0);
        Due.act(y, 1, 0, Due.THROW, 1);
        dueRun(y, 1, 1, 7);
        Due.due("0 and 7, 1 and 7", y.count(3), 4);
    }

    private static void countOutside() {
        ClassStarts x = Due.busy(1, 1);
        dueRun(x, 0, 1, Due.NONE);
        int[] counts = {4, 0, 2, 0};
        for (int what : Due.WILD) {
            Due.due("count(" + what + ")", x.count(what), what >= 0 && what <= 3 ? counts[what] : Due.OUTSIDE);
        }
    }

    private static void sortOfEvent() {
        ClassStarts x = Due.classes(2);
        Due.act(x, 0, 0, Due.LOG, 7);
        Due.act(x, 0, 0, Due.CALL, 0, 1);
        Due.act(x, 0, 1, Due.MAKE, 1);
        Due.act(x, 1, 0, Due.THROW, 0);
        dueRun(x, 0, 2, 7);
        int[] sorts = {0, 3, 4, 0, 2, 2};
        for (int i = 0; i < 6; i++) {
            Due.due("event(" + i + ", 0)", x.event(i, 0), sorts[i]);
        }
        dueRun(Due.classes(1), 0, 1, Due.NONE);
        x.again();
        Due.due("after again()", x.event(2, 0), 4);
        dueRun(x, 0, 1, 7);
        Due.due("of the latest run()", x.event(2, 0), 4);
    }

    private static void numberOfEvent() {
        ClassStarts x = Due.classes(12);
        Due.act(x, 11, 1, Due.LOG, Due.MIN);
        Due.act(x, 11, 1, Due.LOG, Due.MAX);
        Due.act(x, 10, 0, Due.THROW, 0);
        dueRun(x, 11, 1, Due.NONE);
        Due.dueEvents("of 11", x, 0, 11, 1, 11, 3, Due.MIN, 3, Due.MAX);
        dueRun(x, 10, 1, 7);
        Due.dueEvents("of 10", x, 0, 10, 2, 10);
    }

    private static void numberOfCall() {
        ClassStarts x = Due.classes(12);
        Due.act(x, 0, 1, Due.CALL, 11, 3);
        Due.act(x, 0, 1, Due.CALL, 0, 2);
        Due.act(x, 0, 1, Due.CALL, 10, 1);
        dueRun(x, 0, 1, Due.NONE);
        Due.dueEvents("CALLS", x, 0, 0, 1, 0, 0, 11, 1, 11, 4, 113, 4, 2, 0, 10, 1, 10, 4, 101);
    }

    private static void noSuchEvent() {
        ClassStarts x = sixty();
        Due.due("no run() yet", x.event(0, 1), 0);
        Due.act(x, 1, 1, Due.CALL, 0, 1);
        dueRun(x, 1, 1, Due.NONE);
        for (int n : Due.WILD) {
            if (n != 0 && n != 1) {
                Due.due("event(0, " + n + ")", x.event(0, n), 0);
                Due.due("event(2, " + n + ")", x.event(2, n), 0);
                Due.due("event(59, " + n + ")", x.event(59, n), 0);
            }
            if (n < 0 || n > 59) {
                Due.due("event(" + n + ", 0)", x.event(n, 0), 0);
                Due.due("event(" + n + ", 1)", x.event(n, 1), 0);
            }
        }
        Due.due("event(59, 1), the last", x.event(59, 1), 900);
        dueRun(x, 1, 2, Due.NONE);
        Due.due("event(0, 1), none any more", x.event(0, 1), 0);
        Due.due("event(59, 1), none any more", x.event(59, 1), 0);
        Due.due("event(4, 0), none any more", x.event(4, 0), 0);
    }
}
