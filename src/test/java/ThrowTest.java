/** Promises 7 to 10: THROWS, TRY, the CAUSE, the bounds of METHODS, ACTS and EVENTS. */
public final class ThrowTest {
    public static void main(String[] args) {
        thrown();
        caughtByNumber();
        caughtByNone();
        guardedEnd();
        tryWithinTry();
        tryCutByTheOneAround();
        tryBehindTheEnd();
        innerAheadOfOuter();
        nextGuardedOnly();
        causeIsOfTheEnd();
        causeOfTwo();
        methodsWithin();
        methodWithinCaught();
        startWithin();
        callWantsAheadOfDepth();
        work();
        workOfExactlyEighty();
        workInAStart();
        events();
        logs();
        count();
        Due.end();
    }

    private static void thrown() {
        for (int t = 0; t < 3; t++) {
            ClassStarts x = Due.classes(1);
            Due.act(x, 0, 1, Due.THROW, t);
            Due.act(x, 0, 1, Due.LOG, 1);
            Due.due("run", x.run(0, 1), t);
            Due.due("cause() of a METHOD's throw", x.cause(), Due.NONE);
            Due.dueEvents("thrown " + t, x, 0, 0, 1, 0);
            Due.due("ACTS", x.count(2), 1);
            Due.due("throws", x.count(3), 1);
            Due.due("state(0)", x.state(0), Due.DONE);
        }
    }

    /** METHOD 1 of 0, one ACT of which is GUARDED and throws this. */
    private static ClassStarts guarded(int by, int thrown) {
        ClassStarts x = Due.classes(2);
        Due.act(x, 0, 1, Due.TRY, 1, by);
        switch (thrown) {
            case 3: Due.act(x, 0, 1, Due.DIV, 0, 0, 0); break;
            case 4: Due.act(x, 0, 1, Due.IN, 0, 0); break;
            case 5: Due.act(x, 0, 1, Due.OUT, 0, 0); Due.act(x, 0, 0, Due.ROW, 0); break;
            case 6: Due.act(x, 0, 1, Due.ROW, 0); Due.act(x, 0, 0, Due.SET, 0, -1); break;
            case 7: Due.act(x, 0, 1, Due.MAKE, 1); Due.act(x, 1, 0, Due.THROW, 2); break;
            case 8: Due.act(x, 0, 1, Due.MAKE, 1); Due.act(x, 1, 0, Due.THROW, 2); x.run(1, 1); break;
            default: Due.act(x, 0, 1, Due.THROW, thrown); break;
        }
        Due.act(x, 0, 1, Due.LOG, 77);
        return x;
    }

    private static void caughtByNumber() {
        for (int by = Due.NONE; by <= 9; by++) {
            for (int t = 0; t <= 8; t++) {
                ClassStarts x = guarded(by, t);
                boolean caught = by == t || by == Due.NONE;
                String name = t + " by " + by;
                Due.due(name, x.run(0, 1), caught ? Due.NONE : t);
                Due.due(name + ": ACTS behind", x.event(x.count(0) - 1, 0) == 3 ? 1 : 0, caught ? 1 : 0);
                Due.due(name + ": throws", x.count(3), t == 7 ? 2 : 1);
                Due.due(name + ": cause()", x.cause(), t == 7 && !caught ? 2 : Due.NONE);
            }
        }
    }

    private static void caughtByNone() {
        ClassStarts x = Due.classes(1);
        Due.act(x, 0, 1, Due.TRY, 3, Due.NONE);
        Due.act(x, 0, 1, Due.CALL, 0, 2);
        Due.act(x, 0, 1, Due.LOG, 1);
        Due.act(x, 0, 1, Due.LOG, 2);
        Due.act(x, 0, 1, Due.LOG, 3);
        Due.act(x, 0, 2, Due.LOG, 4);
        Due.act(x, 0, 2, Due.THROW, 2);
        Due.act(x, 0, 2, Due.LOG, 5);
        Due.due("run", x.run(0, 1), Due.NONE);
        Due.dueEvents("a CALL's throw ends the GUARDED ones", x, 0, 0, 1, 0, 4, 2, 3, 4, 3, 3);
        Due.due("ACTS", x.count(2), 5);
    }

    private static void guardedEnd() {
        for (int length = 1; length <= 9; length++) {
            ClassStarts x = Due.classes(1);
            Due.act(x, 0, 1, Due.TRY, length, 1);
            Due.act(x, 0, 1, Due.THROW, 1);
            for (int i = 2; i < 10; i++) {
                Due.act(x, 0, 1, Due.LOG, i);
            }
            Due.due("run", x.run(0, 1), Due.NONE);
            Due.due("ACTS behind a TRY of " + length, x.count(2), 11 - length);
            Due.due("the first of them", x.event(2, 1), length == 9 ? 0 : length + 1);
        }
    }

    private static void tryWithinTry() {
        ClassStarts x = Due.classes(1);
        Due.act(x, 0, 1, Due.TRY, 5, 1);
        Due.act(x, 0, 1, Due.TRY, 2, 0);
        Due.act(x, 0, 1, Due.THROW, 0);
        Due.act(x, 0, 1, Due.LOG, 1);
        Due.act(x, 0, 1, Due.LOG, 2);
        Due.act(x, 0, 1, Due.THROW, 1);
        Due.act(x, 0, 1, Due.LOG, 3);
        Due.act(x, 0, 1, Due.THROW, 0);
        Due.due("run", x.run(0, 1), 0);
        Due.dueEvents("a TRY within a TRY", x, 0, 0, 1, 0, 3, 2, 3, 3);
        Due.due("throws", x.count(3), 3);
    }

    private static void tryCutByTheOneAround() {
        ClassStarts x = Due.classes(1);
        Due.act(x, 0, 1, Due.TRY, 2, 1);
        Due.act(x, 0, 1, Due.TRY, 9, 0);
        Due.act(x, 0, 1, Due.THROW, 0);
        Due.act(x, 0, 1, Due.LOG, 1);
        Due.act(x, 0, 1, Due.THROW, 0);
        Due.due("run: behind both", x.run(0, 1), 0);
        Due.dueEvents("a TRY ends with the one around", x, 0, 0, 1, 0, 3, 1);
        ClassStarts y = Due.classes(1);
        Due.act(y, 0, 1, Due.TRY, 4, 1);
        Due.act(y, 0, 1, Due.TRY, 2, 2);
        Due.act(y, 0, 1, Due.TRY, 9, 0);
        Due.act(y, 0, 1, Due.THROW, 0);
        Due.act(y, 0, 1, Due.LOG, 1);
        Due.act(y, 0, 1, Due.THROW, 1);
        Due.due("run: of three the nearest cuts", y.run(0, 1), 1);
        Due.dueEvents("three", y, 0, 0, 1, 0, 3, 1);
        ClassStarts z = Due.classes(1);
        Due.act(z, 0, 1, Due.TRY, 1, 1);
        Due.act(z, 0, 1, Due.TRY, 3, 0);
        Due.act(z, 0, 1, Due.THROW, 0);
        Due.due("run: nothing is left to guard", z.run(0, 1), 0);
    }

    private static void tryBehindTheEnd() {
        ClassStarts x = Due.classes(1);
        Due.act(x, 0, 1, Due.LOG, 1);
        Due.act(x, 0, 1, Due.TRY, 9, 2);
        Due.act(x, 0, 1, Due.THROW, 2);
        Due.act(x, 0, 1, Due.LOG, 2);
        Due.due("run: as far as there are", x.run(0, 1), Due.NONE);
        Due.dueEvents("as far as there are", x, 0, 0, 1, 0, 3, 1);
        ClassStarts y = Due.classes(1);
        Due.act(y, 0, 2, Due.TRY, 9, 0);
        Due.act(y, 0, 1, Due.CALL, 0, 2);
        Due.act(y, 0, 1, Due.THROW, 0);
        Due.due("run: a TRY guards its own METHOD alone", y.run(0, 1), 0);
        Due.due("ACTS", y.count(2), 3);
    }

    private static void innerAheadOfOuter() {
        ClassStarts x = Due.classes(1);
        Due.act(x, 0, 1, Due.TRY, 4, Due.NONE);
        Due.act(x, 0, 1, Due.TRY, 1, 2);
        Due.act(x, 0, 1, Due.THROW, 2);
        Due.act(x, 0, 1, Due.LOG, 1);
        Due.act(x, 0, 1, Due.LOG, 2);
        Due.act(x, 0, 1, Due.LOG, 3);
        Due.due("run", x.run(0, 1), Due.NONE);
        Due.dueEvents("caught within", x, 0, 0, 1, 0, 3, 1, 3, 2, 3, 3);
    }

    private static void nextGuardedOnly() {
        ClassStarts x = Due.classes(1);
        Due.act(x, 0, 1, Due.TRY, 1, 0);
        Due.act(x, 0, 1, Due.LOG, 1);
        Due.act(x, 0, 1, Due.THROW, 0);
        Due.due("run: behind the GUARDED ones", x.run(0, 1), 0);
        ClassStarts y = Due.classes(1);
        Due.act(y, 0, 1, Due.TRY, 1, 0);
        Due.act(y, 0, 1, Due.THROW, 0);
        Due.act(y, 0, 1, Due.TRY, 1, 1);
        Due.act(y, 0, 1, Due.THROW, 1);
        Due.act(y, 0, 1, Due.THROW, 2);
        Due.due("run: one TRY after the other", y.run(0, 1), 2);
        Due.due("throws", y.count(3), 3);
    }

    private static void causeIsOfTheEnd() {
        ClassStarts x = Due.classes(3);
        Due.act(x, 1, 0, Due.THROW, 1);
        Due.act(x, 0, 1, Due.TRY, 1, 7);
        Due.act(x, 0, 1, Due.MAKE, 1);
        Due.act(x, 0, 2, Due.THROW, 0);
        Due.act(x, 2, 0, Due.MAKE, 0);
        Due.act(x, 2, 0, Due.CALL, 0, 2);
        Due.due("run(0, 1)", x.run(0, 1), Due.NONE);
        Due.due("cause(), 7 was caught", x.cause(), Due.NONE);
        Due.due("run(1, 1)", x.run(1, 1), 8);
        Due.due("cause() of 8", x.cause(), Due.NONE);
        Due.due("run(2, 1)", x.run(2, 1), 7);
        Due.due("cause(), of a CALL in a START", x.cause(), 0);
        Due.due("a refused run()", x.run(9, 1), Due.UNKNOWN);
        Due.due("cause() stays", x.cause(), 0);
        x.again();
        Due.due("cause() after again()", x.cause(), 0);
        Due.due("run(0, 3)", x.run(0, 3), Due.NONE);
        Due.due("cause() of a later run()", x.cause(), Due.NONE);
    }

    private static void causeOfTwo() {
        ClassStarts x = Due.classes(3);
        Due.act(x, 1, 0, Due.THROW, 1);
        Due.act(x, 2, 0, Due.IN, 0, 0);
        Due.act(x, 0, 1, Due.TRY, 1, 7);
        Due.act(x, 0, 1, Due.MAKE, 1);
        Due.act(x, 0, 1, Due.MAKE, 2);
        Due.due("run(0, 1)", x.run(0, 1), 7);
        Due.due("cause() of the one that ended it", x.cause(), 4);
        Due.due("throws, those that become 7 twice", x.count(3), 4);
    }

    /** METHODS that CALL each the next one: so many of them. */
    private static ClassStarts chain(int methods) {
        ClassStarts x = Due.classes((methods + 2) / 3);
        for (int i = 0; i + 1 < methods; i++) {
            Due.act(x, i / 3, i % 3 + 1, Due.CALL, (i + 1) / 3, (i + 1) % 3 + 1);
        }
        return x;
    }

    private static void methodsWithin() {
        ClassStarts eight = chain(8);
        Due.due("eight METHODS, one within the other", eight.run(0, 1), Due.NONE);
        Due.due("ACTS", eight.count(2), 7);
        ClassStarts nine = chain(9);
        Due.due("nine METHODS, one within the other", nine.run(0, 1), 9);
        Due.due("ACTS", nine.count(2), 8);
        Due.due("throws", nine.count(3), 1);
        Due.dueEvents("nine", nine, 0, 0, 1, 0, 4, 2, 4, 3, 0, 1, 1, 1, 4, 11, 4, 12, 4, 13, 0, 2, 1, 2, 4, 21, 4, 22);
    }

    private static void methodWithinCaught() {
        ClassStarts x = Due.classes(1);
        Due.act(x, 0, 1, Due.TRY, 1, 9);
        Due.act(x, 0, 1, Due.CALL, 0, 1);
        Due.act(x, 0, 1, Due.LOG, 5);
        Due.due("run", x.run(0, 1), Due.NONE);
        Due.due("ACTS", x.count(2), 24);
        Due.due("throws", x.count(3), 1);
        Due.due("EVENTS", x.count(0), 2 + 7 + 8);
    }

    /** At the eighth METHOD this ACT; 3 has ACTS in its METHOD 0 and a PARENT, 4 has none. */
    private static ClassStarts deep(int sort, int a, int b) {
        ClassStarts x = Due.classes(4);
        x.made(3);
        for (int i = 0; i < 7; i++) {
            Due.act(x, i / 3, i % 3 + 1, Due.CALL, (i + 1) / 3, (i + 1) % 3 + 1);
        }
        Due.act(x, 2, 2, sort, a, b, 0);
        return x;
    }

    private static void startWithin() {
        ClassStarts x = deep(Due.MAKE, 3, 0);
        Due.act(x, 3, 0, Due.LOG, 5);
        Due.due("a START within 8 METHODS", x.run(0, 1), 9);
        Due.due("cause() of 9", x.cause(), Due.NONE);
        Due.due("state(3)", x.state(3), Due.FAILED);
        Due.due("throws", x.count(3), 1);
        int n = x.count(0);
        Due.due("it began", x.event(n - 2, 0) * 100 + x.event(n - 2, 1), 3);
        Due.due("it FAILED", x.event(n - 1, 0) * 100 + x.event(n - 1, 1), 203);
        ClassStarts y = deep(Due.MAKE, 4, 0);
        Due.due("a START of no ACTS within 8 METHODS", y.run(0, 1), 9);
        Due.due("state(3), its PARENT's", y.state(3), Due.FAILED);
        Due.due("state(4)", y.state(4), Due.FAILED);
        ClassStarts z = chain(7);
        z.made(Due.NONE);
        Due.act(z, 2, 1, Due.MAKE, 3);
        Due.act(z, 3, 0, Due.LOG, 5);
        Due.due("a START within 7 METHODS", z.run(0, 1), Due.NONE);
        Due.due("state(3)", z.state(3), Due.DONE);
    }

    private static void callWantsAheadOfDepth() {
        ClassStarts x = deep(Due.CALL, 3, 1);
        x.run(3, 1);
        Due.due("a CALL of one that is DONE within 8", x.run(0, 1), 9);
        Due.due("state(3)", x.state(3), Due.DONE);
        ClassStarts y = deep(Due.CALL, 3, 1);
        Due.act(y, 3, 0, Due.THROW, 0);
        y.run(3, 1);
        Due.due("a CALL of one that FAILED within 8", y.run(0, 1), 8);
        ClassStarts z = deep(Due.CALL, 3, 1);
        Due.due("a CALL of one that is NOT within 8", z.run(0, 1), 9);
        Due.due("state(3)", z.state(3), Due.FAILED);
    }

    /** METHOD 1 works METHOD 2 so often, and that has so many LOGS. */
    private static ClassStarts busy(int calls, int logs) {
        ClassStarts x = Due.classes(2);
        for (int i = 0; i < calls; i++) {
            Due.act(x, 0, 1, Due.CALL, 0, 2);
        }
        for (int i = 0; i < logs; i++) {
            Due.act(x, 0, 2, Due.LOG, i);
        }
        return x;
    }

    private static void work() {
        ClassStarts x = busy(8, 10);
        Due.due("88 ACTS", x.run(0, 1), 10);
        Due.due("ACTS", x.count(2), 80);
        Due.due("throws, 10 is none", x.count(3), 0);
        Due.due("cause()", x.cause(), Due.NONE);
        Due.due("EVENTS", x.count(0), 60);
        Due.due("state(0)", x.state(0), Due.DONE);
        Due.due("the next run() has 80 ACTS more", x.run(0, 2), Due.NONE);
        Due.due("ACTS of that", x.count(2), 10);
        Due.act(x, 1, 1, Due.TRY, 1, Due.NONE);
        Due.act(x, 1, 1, Due.CALL, 0, 1);
        Due.act(x, 1, 1, Due.LOG, 1);
        Due.due("nothing catches it", x.run(1, 1), 10);
    }

    private static void workOfExactlyEighty() {
        ClassStarts x = busy(8, 9);
        Due.due("80 ACTS", x.run(0, 1), Due.NONE);
        Due.due("ACTS", x.count(2), 80);
        Due.act(x, 1, 1, Due.CALL, 0, 1);
        Due.due("81 ACTS", x.run(1, 1), 10);
        ClassStarts y = busy(7, 10);
        Due.act(y, 0, 3, Due.CALL, 0, 1);
        for (int i = 0; i < 2; i++) {
            Due.act(y, 0, 3, Due.LOG, i);
        }
        Due.act(y, 0, 3, Due.TRY, 1, Due.NONE);
        Due.due("81 ACTS, the last a TRY", y.run(0, 3), 10);
        Due.due("ACTS", y.count(2), 80);
    }

    private static void workInAStart() {
        ClassStarts x = busy(8, 10);
        Due.act(x, 1, 0, Due.CALL, 0, 1);
        Due.due("81 ACTS in a START", x.run(1, 1), 10);
        Due.due("state(1)", x.state(1), Due.FAILED);
        Due.due("cause()", x.cause(), Due.NONE);
        Due.due("throws", x.count(3), 0);
        Due.due("run(1, 1)", x.run(1, 1), 8);
        Due.due("throws", x.count(3), 1);
    }

    private static void events() {
        ClassStarts x = busy(6, 8);
        Due.act(x, 0, 1, Due.LOG, 900);
        Due.act(x, 0, 1, Due.LOG, 901);
        Due.act(x, 0, 1, Due.LOG, 902);
        Due.act(x, 0, 1, Due.LOG, 903);
        Due.due("run", x.run(0, 1), Due.NONE);
        Due.due("EVENTS, exactly 60", x.count(0), 60);
        Due.due("the last one", x.event(59, 1), 903);
        Due.due("none behind", x.event(60, 0), 0);
        Due.act(x, 1, 1, Due.LOG, 1);
        Due.act(x, 1, 1, Due.CALL, 0, 1);
        Due.due("run of more", x.run(1, 1), Due.NONE);
        Due.due("EVENTS, the first 60", x.count(0), 60);
        Due.due("the last one of these", x.event(59, 1), 901);
        for (int what : Due.WILD) {
            if (what != 0 && what != 1) {
                Due.due("event(0, " + what + ")", x.event(0, what), 0);
                Due.due("event(2, " + what + ")", x.event(2, what), 0);
            }
            if (what < 0 || what > 59) {
                Due.due("event(" + what + ", 0)", x.event(what, 0), 0);
                Due.due("event(" + what + ", 1)", x.event(what, 1), 0);
            }
        }
    }

    private static void logs() {
        ClassStarts x = Due.classes(12);
        Due.act(x, 0, 1, Due.LOG, Integer.MIN_VALUE);
        Due.act(x, 0, 1, Due.LOG, Integer.MAX_VALUE);
        Due.act(x, 0, 1, Due.CALL, 11, 3);
        Due.due("run", x.run(0, 1), Due.NONE);
        Due.dueEvents("numbers of EVENTS", x, 0, 0, 1, 0, 3, Integer.MIN_VALUE, 3, Integer.MAX_VALUE, 0, 11, 1, 11,
            4, 113);
        x.again();
        Due.due("EVENTS after again()", x.count(0), 7);
    }

    private static void count() {
        ClassStarts x = Due.classes(1);
        for (int what : Due.WILD) {
            Due.due("count(" + what + ")", x.count(what), what >= 0 && what <= 3 ? 0 : Due.OUTSIDE);
        }
    }
}
