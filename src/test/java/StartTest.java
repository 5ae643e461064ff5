/** STARTS, and promises 7, 11 and 15: what is started by what, in which order, what FAILS, and all of it again. */
public final class StartTest {
    public static void main(String[] args) {
        hold();
        Due.end();
    }

    static void hold() {
        Sentence.holds(Sentence.STARTS, "STARTS. STATES: 0 NOT, 1 IN WORK, 2 DONE, 3 FAILED.", StartTest::states);
        Sentence.holds(Sentence.STARTS, "X is WANTED: by ADD, PUT, DIV of one of its FIELDS", StartTest::wantedByFields);
        Sentence.holds(Sentence.STARTS, "that is not CONSTANT,", StartTest::constantsAreNotWanted);
        Sentence.holds(Sentence.STARTS, "and by CALL, MAKE, run(),", StartTest::wantedByCallMakeRun);
        Sentence.holds(Sentence.STARTS, "each ahead of what it does.", StartTest::aheadOfWhatItDoes);
        Sentence.holds(Sentence.STARTS, "If X is IN WORK or DONE, nothing comes of it;", StartTest::inWorkOrDone);
        Sentence.holds(Sentence.STARTS, "if FAILED, 8 is thrown.", StartTest::failed);
        Sentence.holds(Sentence.STARTS, "Else it is IN WORK;", StartTest::elseInWork);
        Sentence.holds(Sentence.STARTS, "of a CLASS its PARENT is WANTED,", StartTest::parentFirst);
        Sentence.holds(Sentence.STARTS, "then its FACES are LOOKED THROUGH, in order:", StartTest::facesThen);
        Sentence.holds(Sentence.STARTS, "of a FACE first its own FACES,", StartTest::facesOfFacesFirst);
        Sentence.holds(Sentence.STARTS, "then it is WANTED, if it has DEFAULTS.", StartTest::thenTheFace);
        Sentence.holds(Sentence.STARTS, "(A FACE's START looks through nothing.)", StartTest::startOfAFace);
        Sentence.holds(Sentence.STARTS, "Then METHOD 0 is worked.", StartTest::thenMethodZero);
        Sentence.holds(Sentence.STARTS, "When all ends, X is DONE.", StartTest::done);
        Sentence.holds(Sentence.STARTS, "A throw makes X FAILED, and goes on;", StartTest::throwGoesOn);
        Sentence.holds(Sentence.STARTS, "but one of 0 .. 6 becomes 7.", StartTest::becomesSeven);

        Sentence.holds(7, "X is WANTED, then METHOD 1 .. 3 is worked:", StartTest::run);
        Sentence.holds(7, "NONE, or what was thrown.", StartTest::whatWasThrown);
        Sentence.holds(7, "UNKNOWN;", StartTest::runOfNoSuch);
        Sentence.holds(7, "OUTSIDE.", StartTest::runOutside);
        Sentence.holds(7, "(EVENTS, HALF SEEN, the CAUSE, ACTS are of this run() then.)", StartTest::ofThisRun);

        Sentence.holds(11, "STATE of X.", StartTest::stateOfEach);
        Sentence.holds(11, "UNKNOWN.", StartTest::stateOfNoSuch);

        Sentence.holds(15, "All are NOT again,", StartTest::allNotAgain);
        Sentence.holds(15, "FIELDS 0 (CONSTANT ones stay),", StartTest::fieldsAgain);
        Sentence.holds(15, "ROWS none:", StartTest::rowsAgain);
        Sentence.holds(15, "how many were not NOT.", StartTest::howManyAgain);
    }

    private static void dueRun(ClassStarts x, int kind, int method, int want) {
        Due.due("run(" + kind + ", " + method + ")", x.run(kind, method), want);
    }

    private static void states() {
        ClassStarts x = Due.classes(3);
        Due.act(x, 1, 0, Due.THROW, 0);
        dueRun(x, 0, 1, Due.NONE);
        dueRun(x, 1, 1, 7);
        Due.due("state(0), DONE", x.state(0), 2);
        Due.due("state(1), FAILED", x.state(1), 3);
        Due.due("state(2), NOT", x.state(2), 0);
        ClassStarts y = Due.busy(8, 10);
        Due.act(y, 1, 0, Due.CALL, 0, 1);
        dueRun(y, 1, 1, 10);
        Due.due("state(0), its METHOD ended by 10", y.state(0), 2);
        Due.due("state(1), none stays IN WORK", y.state(1), 3);
    }

    private static void wantedByFields() {
        for (int sort : new int[] {Due.ADD, Due.PUT, Due.DIV}) {
            for (int f = 0; f < 4; f++) {
                ClassStarts x = Due.kinds("FCC");
                Due.act(x, 2, 1, sort, 0, 0, f);
                Due.act(x, 2, 2, sort, 0, 1, f);
                dueRun(x, 2, 1, sort == Due.DIV ? 3 : Due.NONE);
                Due.due("ACT " + sort + " WANTS a FACE", x.state(0), Due.DONE);
                Due.due("and no other one", x.state(1), Due.NOT);
                dueRun(x, 2, 2, sort == Due.DIV ? 3 : Due.NONE);
                Due.due("ACT " + sort + " WANTS a CLASS", x.state(1), Due.DONE);
            }
        }
        ClassStarts y = Due.classes(2);
        Due.act(y, 0, 1, Due.SET, 0, 1, 1);
        Due.act(y, 0, 1, Due.ROW, 0, 1, 1);
        Due.act(y, 0, 1, Due.IN, 1, 1, 1);
        Due.act(y, 0, 1, Due.OUT, 1, 1, 1);
        Due.act(y, 0, 1, Due.LOG, 1, 1, 1);
        Due.act(y, 0, 1, Due.TRY, 1, 1, 1);
        Due.act(y, 0, 1, Due.DROP, 1, 1, 1);
        Due.act(y, 0, 1, Due.THROW, 1, 1, 1);
        dueRun(y, 0, 1, 1);
        Due.due("the others WANT nothing", y.state(1), Due.NOT);
    }

    private static void constantsAreNotWanted() {
        ClassStarts x = Due.classes(4);
        for (int z = 1; z < 4; z++) {
            x.constant(z, 0, 5);
            Due.act(x, z, 0, Due.THROW, 1);
        }
        Due.act(x, 0, 1, Due.ADD, 1, 1, 0);
        Due.act(x, 0, 1, Due.DIV, 1, 2, 0);
        Due.act(x, 0, 1, Due.PUT, 1, 3, 0);
        dueRun(x, 0, 1, Due.NONE);
        Due.due("what was read", x.field(0, 1), 1);
        Due.dueEvents("only CONSTANTS", x, 0, 0, 1, 0);
        for (int sort : new int[] {Due.ADD, Due.DIV, Due.PUT}) {
            ClassStarts y = Due.classes(3);
            y.constant(1, 0, 5);
            Due.act(y, 1, 0, Due.THROW, 1);
            Due.act(y, 0, 1, sort, 1, 1, 1);
            Due.act(y, 2, 1, sort, 1, 1, 0);
            dueRun(y, 0, 1, 7);
            Due.due("a FIELD beside the CONSTANT one: its CAUSE", y.cause(), 1);
            dueRun(y, 2, 1, Due.NONE);
            Due.due("a CONSTANT of one that FAILED: throws", y.count(3), 0);
        }
    }

    private static void wantedByCallMakeRun() {
        for (int sort : new int[] {Due.CALL, Due.MAKE}) {
            ClassStarts x = Due.classes(2);
            Due.act(x, 0, 1, sort, 1, 1);
            dueRun(x, 0, 1, Due.NONE);
            Due.due("run() WANTS", x.state(0), Due.DONE);
            Due.due("ACT " + sort + " WANTS", x.state(1), Due.DONE);
        }
        ClassStarts y = Due.kinds("FC");
        Due.act(y, 1, 1, Due.CALL, 0, 3);
        dueRun(y, 1, 1, Due.NONE);
        Due.due("a CALL WANTS a FACE", y.state(0), Due.DONE);
        Due.dueEvents("ahead of the METHOD", y, 0, 1, 1, 1, 0, 0, 1, 0, 4, 3);
        dueRun(Due.kinds("F"), 0, 1, Due.NONE);
    }

    private static void aheadOfWhatItDoes() {
        ClassStarts add = Due.classes(2);
        Due.act(add, 1, 0, Due.SET, 0, 40);
        Due.act(add, 1, 0, Due.PUT, 0, 0, 1);
        Due.act(add, 0, 1, Due.SET, 1, 2);
        Due.act(add, 0, 1, Due.ADD, 1, 1, 0);
        dueRun(add, 0, 1, Due.NONE);
        Due.due("ADD", add.field(0, 1), 80);
        ClassStarts div = Due.classes(2);
        Due.act(div, 1, 0, Due.SET, 0, 40);
        Due.act(div, 1, 0, Due.PUT, 0, 0, 1);
        Due.act(div, 0, 1, Due.DIV, 1, 1, 0);
        dueRun(div, 0, 1, Due.NONE);
        Due.due("DIV", div.field(0, 1), 1);
        ClassStarts put = Due.classes(2);
        Due.act(put, 1, 0, Due.SET, 0, 40);
        Due.act(put, 1, 0, Due.SET, 2, 41);
        Due.act(put, 1, 0, Due.PUT, 0, 0, 1);
        Due.act(put, 0, 1, Due.PUT, 1, 1, 2);
        dueRun(put, 0, 1, Due.NONE);
        Due.due("PUT", put.field(1, 2), 40);
        ClassStarts call = Due.classes(2);
        Due.logs(call, 1, 0, 1, 1);
        Due.logs(call, 1, 1, 2, 2);
        Due.act(call, 0, 1, Due.CALL, 1, 1);
        dueRun(call, 0, 1, Due.NONE);
        Due.dueEvents("CALL", call, 0, 0, 1, 0, 0, 1, 3, 1, 1, 1, 4, 11, 3, 2);
        for (int sort : new int[] {Due.ADD, Due.PUT, Due.DIV, Due.CALL}) {
            ClassStarts x = Due.classes(2);
            Due.act(x, 1, 0, Due.SET, 1, 3);
            Due.act(x, 1, 0, Due.THROW, 2);
            Due.act(x, 0, 1, Due.SET, 1, 9);
            Due.act(x, 0, 1, sort, 1, 1, 1);
            dueRun(x, 0, 1, 7);
            Due.due("nothing is done then by ACT " + sort, x.field(0, 1), 9);
            Due.due("nor to the other one", x.field(1, 1), 3);
        }
    }

    private static void inWorkOrDone() {
        int[][] wants = {{Due.ADD, 1, 0, 0}, {Due.PUT, 1, 0, 0}, {Due.DIV, 1, 0, 0}, {Due.CALL, 0, 3, 0},
            {Due.MAKE, 0, 0, 0}};
        for (int[] a : wants) {
            ClassStarts x = Due.classes(2);
            Due.act(x, 0, 0, Due.SET, 0, 1);
            Due.act(x, 0, 0, Due.CALL, 1, 1);
            Due.act(x, 0, 0, Due.SET, 0, 1);
            Due.act(x, 1, 1, a[0], a[1], a[2], a[3]);
            dueRun(x, 0, 1, Due.NONE);
            int call = a[0] == Due.CALL ? 1 : 0;
            Due.due("EVENTS of ACT " + a[0] + ", IN WORK", x.count(0), 5 + call);
            dueRun(x, 1, 1, Due.NONE);
            Due.due("EVENTS of ACT " + a[0] + ", DONE", x.count(0), call);
            dueRun(x, 0, 1, Due.NONE);
            Due.due("EVENTS of run(), DONE", x.count(0), 0);
        }
        ClassStarts y = Due.kinds("CP");
        Due.act(y, 0, 0, Due.CALL, 1, 1);
        Due.act(y, 1, 0, Due.LOG, 8);
        Due.act(y, 1, 1, Due.LOG, 9);
        dueRun(y, 1, 1, Due.NONE);
        Due.dueEvents("one IN WORK is entered", y, 0, 1, 0, 0, 4, 11, 3, 9, 1, 0, 3, 8, 1, 1, 3, 9);
        y.again();
        dueRun(y, 0, 1, Due.NONE);
        Due.dueEvents("the PARENT is IN WORK", y, 0, 0, 0, 1, 3, 8, 1, 1, 4, 11, 3, 9, 1, 0);
    }

    private static void failed() {
        ClassStarts x = Due.kinds("FCPC");
        x.bears(3, 0);
        Due.act(x, 0, 0, Due.THROW, 0);
        Due.act(x, 1, 0, Due.THROW, 1);
        dueRun(x, 0, 1, 7);
        dueRun(x, 1, 1, 7);
        dueRun(x, 1, 1, 8);
        Due.dueEvents("nothing begins", x);
        Due.due("throws", x.count(3), 1);
        dueRun(x, 2, 1, 8);
        Due.dueEvents("of a PARENT", x, 0, 2, 2, 2);
        dueRun(x, 3, 1, 8);
        Due.dueEvents("of a FACE", x, 0, 3, 2, 3);
        Due.due("state(3)", x.state(3), Due.FAILED);
    }

    private static void elseInWork() {
        ClassStarts x = Due.kinds("FCPC");
        x.bears(2, 0);
        for (int i = 0; i < 3; i++) {
            Due.act(x, i, 0, Due.CALL, 3, 1);
        }
        Due.act(x, 3, 1, Due.ADD, 0, 2, 0);
        dueRun(x, 2, 1, Due.NONE);
        Due.due("2 is HALF SEEN in each START", x.count(1), 3);
        Due.due("it begins once", x.event(0, 1), 2);
        Due.due("EVENTS", x.count(0), 8 + 3);
    }

    private static void parentFirst() {
        ClassStarts x = Due.kinds("CPP");
        for (int i = 0; i < 3; i++) {
            Due.act(x, i, 0, Due.LOG, 10 + i);
        }
        dueRun(x, 1, 1, Due.NONE);
        Due.dueEvents("the PARENT", x, 0, 1, 0, 0, 3, 10, 1, 0, 3, 11, 1, 1);
        dueRun(x, 2, 1, Due.NONE);
        Due.dueEvents("the PARENT is DONE", x, 0, 2, 3, 12, 1, 2);
        x.again();
        dueRun(x, 2, 1, Due.NONE);
        Due.dueEvents("the PARENT's PARENT", x, 0, 2, 0, 1, 0, 0, 3, 10, 1, 0, 3, 11, 1, 1, 3, 12, 1, 2);
        x.again();
        dueRun(x, 0, 1, Due.NONE);
        Due.dueEvents("nobody below is WANTED", x, 0, 0, 3, 10, 1, 0);
    }

    private static void facesThen() {
        ClassStarts x = Due.kinds("FfFCP");
        x.bears(3, 2);
        x.bears(3, 1);
        x.bears(3, 0);
        dueRun(x, 4, 1, Due.NONE);
        Due.dueEvents("FACES as told", x, 0, 4, 0, 3, 0, 2, 1, 2, 0, 0, 1, 0, 1, 3, 1, 4);
        ClassStarts y = Due.kinds("FCP");
        y.bears(2, 0);
        dueRun(y, 2, 1, Due.NONE);
        Due.dueEvents("behind the PARENT", y, 0, 2, 0, 1, 1, 1, 0, 0, 1, 0, 1, 2);
        ClassStarts z = Due.kinds("FCP");
        z.bears(2, 0);
        Due.act(z, 1, 0, Due.THROW, 2);
        dueRun(z, 2, 1, 7);
        Due.due("state(0), not come to", z.state(0), Due.NOT);
    }

    /** 4 has FACE 3, that has 2 (no DEFAULTS), that has 1 and 0. */
    private static ClassStarts tower() {
        ClassStarts x = Due.kinds("FFfFC");
        x.bears(2, 1);
        x.bears(2, 0);
        x.bears(3, 2);
        x.bears(4, 3);
        return x;
    }

    private static void facesOfFacesFirst() {
        ClassStarts x = tower();
        dueRun(x, 4, 1, Due.NONE);
        Due.dueEvents("the innermost first", x, 0, 4, 0, 1, 1, 1, 0, 0, 1, 0, 0, 3, 1, 3, 1, 4);
        ClassStarts y = Due.kinds("FffffffffffC");
        for (int i = 1; i < 12; i++) {
            y.bears(i, i - 1);
        }
        dueRun(y, 11, 1, Due.NONE);
        Due.dueEvents("through 11 FACES", y, 0, 11, 0, 0, 1, 0, 1, 11);
        ClassStarts z = Due.kinds("FFFFFFFFFFFC");
        for (int i = 1; i < 12; i++) {
            z.bears(i, i - 1);
        }
        dueRun(z, 11, 1, Due.NONE);
        for (int i = 0; i < 11; i++) {
            Due.due("the START of " + i, z.event(1 + 2 * i, 1), i);
            Due.due("is DONE ahead of the next", z.event(2 + 2 * i, 0) * 100 + z.event(2 + 2 * i, 1), 100 + i);
        }
        ClassStarts ways = Due.kinds("FFFC");
        ways.bears(1, 0);
        ways.bears(2, 0);
        ways.bears(3, 2);
        ways.bears(3, 1);
        ways.bears(3, 0);
        dueRun(ways, 3, 1, Due.NONE);
        Due.dueEvents("one FACE by three ways", ways, 0, 3, 0, 0, 1, 0, 0, 2, 1, 2, 0, 1, 1, 1, 1, 3);
    }

    private static void thenTheFace() {
        ClassStarts x = tower();
        dueRun(x, 4, 1, Due.NONE);
        Due.due("state(2), without DEFAULTS", x.state(2), Due.NOT);
        Due.due("state(3), with DEFAULTS", x.state(3), Due.DONE);
        ClassStarts y = Due.kinds("FFC");
        y.bears(2, 0);
        y.bears(2, 1);
        Due.act(y, 0, 0, Due.OUT, 0, 0);
        dueRun(y, 2, 1, 7);
        Due.due("cause()", y.cause(), 4);
        Due.dueEvents("one FAILS", y, 0, 2, 0, 0, 2, 0, 2, 2);
        Due.due("state(1), not come to", y.state(1), Due.NOT);
        ClassStarts z = Due.kinds("FFC");
        z.bears(1, 0);
        z.bears(2, 1);
        Due.act(z, 0, 0, Due.THROW, 0);
        dueRun(z, 2, 1, 7);
        Due.dueEvents("a FACE of a FACE FAILS", z, 0, 2, 0, 0, 2, 0, 2, 2);
        Due.due("state(1), not come to", z.state(1), Due.NOT);
    }

    private static void startOfAFace() {
        ClassStarts x = tower();
        dueRun(x, 3, 1, Due.NONE);
        Due.dueEvents("of FACE 3 alone", x, 0, 3, 1, 3);
        dueRun(x, 4, 1, Due.NONE);
        Due.dueEvents("one that is DONE is looked through", x, 0, 4, 0, 1, 1, 1, 0, 0, 1, 0, 1, 4);
    }

    private static void thenMethodZero() {
        ClassStarts x = Due.kinds("FCP");
        x.bears(2, 0);
        for (int i = 0; i < 3; i++) {
            Due.logs(x, i, 0, 10 * i, 10 * i + 1);
        }
        dueRun(x, 2, 1, Due.NONE);
        Due.dueEvents("behind PARENT and FACES", x, 0, 2, 0, 1, 3, 10, 3, 11, 1, 1, 0, 0, 3, 0, 3, 1, 1, 0,
            3, 20, 3, 21, 1, 2);
    }

    private static void done() {
        ClassStarts x = Due.classes(1);
        Due.act(x, 0, 0, Due.TRY, 1, 1);
        Due.act(x, 0, 0, Due.THROW, 1);
        Due.act(x, 0, 1, Due.THROW, 2);
        dueRun(x, 0, 1, 2);
        Due.due("state(0), what was thrown in it was caught", x.state(0), Due.DONE);
        dueRun(x, 0, 1, 2);
        Due.due("state(0), a METHOD's throw changes nothing", x.state(0), Due.DONE);
        ClassStarts y = Due.kinds("F");
        dueRun(y, 0, 3, Due.NONE);
        Due.due("state(0), no ACTS at all", y.state(0), Due.DONE);
    }

    private static void throwGoesOn() {
        ClassStarts x = Due.kinds("CPPC");
        Due.act(x, 0, 0, Due.SET, 0, 5);
        Due.act(x, 0, 0, Due.THROW, 2);
        Due.act(x, 3, 0, Due.MAKE, 2);
        Due.act(x, 3, 0, Due.LOG, 1);
        dueRun(x, 3, 1, 7);
        Due.dueEvents("from one to the next", x, 0, 3, 0, 2, 0, 1, 0, 0, 2, 0, 2, 1, 2, 2, 2, 3);
        Due.due("what it did stays", x.field(0, 0), 5);
        Due.due("throws: 2 and 7, once", x.count(3), 2);
        ClassStarts y = Due.classes(3);
        Due.act(y, 1, 0, Due.THROW, 0);
        Due.act(y, 0, 0, Due.TRY, 1, 7);
        Due.act(y, 0, 0, Due.MAKE, 1);
        Due.act(y, 0, 0, Due.TRY, 1, 8);
        Due.act(y, 0, 0, Due.MAKE, 1);
        Due.act(y, 0, 0, Due.MAKE, 2);
        dueRun(y, 0, 1, Due.NONE);
        Due.dueEvents("to where it is caught", y, 0, 0, 0, 1, 2, 1, 0, 2, 1, 2, 1, 0);
        Due.due("throws", y.count(3), 3);
        ClassStarts z = Due.classes(2);
        Due.act(z, 0, 0, Due.CALL, 1, 1);
        Due.act(z, 1, 1, Due.THROW, 0);
        dueRun(z, 0, 1, 7);
        Due.due("state(0), of a METHOD of another one", z.state(0), Due.FAILED);
        Due.due("state(1), whose METHOD threw", z.state(1), Due.DONE);
    }

    private static void becomesSeven() {
        ClassStarts six = Due.classes(1);
        Due.act(six, 0, 0, Due.SET, 0, -1);
        Due.act(six, 0, 0, Due.ROW, 0);
        dueRun(six, 0, 1, 7);
        Due.due("6: cause()", six.cause(), 6);
        ClassStarts zero = Due.classes(1);
        Due.act(zero, 0, 0, Due.THROW, 0);
        dueRun(zero, 0, 1, 7);
        Due.due("0: cause()", zero.cause(), 0);
        ClassStarts seven = Due.classes(2);
        Due.act(seven, 0, 0, Due.THROW, 0);
        Due.act(seven, 1, 0, Due.MAKE, 0);
        dueRun(seven, 1, 1, 7);
        Due.due("7 does not: throws", seven.count(3), 2);
        seven.again();
        dueRun(seven, 0, 1, 7);
        dueRun(seven, 1, 1, 8);
        Due.due("8 does not: state(1)", seven.state(1), Due.FAILED);
        ClassStarts nine = Due.classes(1);
        Due.act(nine, 0, 0, Due.CALL, 0, 1);
        Due.act(nine, 0, 1, Due.CALL, 0, 1);
        dueRun(nine, 0, 1, 9);
        Due.due("9 does not: state(0)", nine.state(0), Due.FAILED);
        ClassStarts ten = Due.busy(8, 10);
        Due.act(ten, 0, 0, Due.CALL, 0, 1);
        dueRun(ten, 0, 1, 10);
        Due.due("10 does not: state(0)", ten.state(0), Due.FAILED);
    }

    private static void run() {
        ClassStarts x = Due.kinds("FC");
        for (int kind = 0; kind < 2; kind++) {
            for (int method = 0; method < 4; method++) {
                Due.act(x, kind, method, Due.LOG, 10 * kind + method);
            }
            dueRun(x, kind, 1, Due.NONE);
            Due.dueEvents("WANTED, then worked", x, 0, kind, 3, 10 * kind, 1, kind, 3, 10 * kind + 1);
            dueRun(x, kind, 2, Due.NONE);
            Due.dueEvents("METHOD 2", x, 3, 10 * kind + 2);
            dueRun(x, kind, 3, Due.NONE);
            Due.dueEvents("METHOD 3", x, 3, 10 * kind + 3);
        }
        ClassStarts y = Due.classes(1);
        dueRun(y, 0, 3, Due.NONE);
        Due.dueEvents("a METHOD of no ACTS", y, 0, 0, 1, 0);
        ClassStarts z = Due.classes(1);
        Due.act(z, 0, 0, Due.THROW, 0);
        Due.act(z, 0, 1, Due.LOG, 1);
        dueRun(z, 0, 1, 7);
        Due.dueEvents("its START FAILS: nothing is worked", z, 0, 0, 2, 0);
    }

    private static void whatWasThrown() {
        ClassStarts x = Due.classes(2);
        Due.act(x, 1, 0, Due.THROW, 1);
        Due.act(x, 0, 1, Due.MAKE, 1);
        Due.act(x, 0, 2, Due.CALL, 0, 2);
        Due.act(x, 0, 3, Due.TRY, 1, 8);
        Due.act(x, 0, 3, Due.MAKE, 1);
        dueRun(x, 0, 1, 7);
        dueRun(x, 0, 1, 8);
        dueRun(x, 0, 2, 9);
        dueRun(x, 0, 3, Due.NONE);
        dueRun(Due.busy(8, 9), 0, 1, Due.NONE);
        dueRun(Due.busy(8, 10), 0, 1, 10);
    }

    private static void runOfNoSuch() {
        ClassStarts x = Due.classes(2);
        for (int n : Due.WILD) {
            if (n < 0 || n > 1) {
                dueRun(x, n, 1, Due.UNKNOWN);
            }
        }
        Due.due("state(0)", x.state(0), Due.NOT);
        Due.due("state(1)", x.state(1), Due.NOT);
    }

    private static void runOutside() {
        ClassStarts x = Due.classes(1);
        for (int n : Due.WILD) {
            if (n < 1 || n > 3) {
                dueRun(x, 0, n, Due.OUTSIDE);
                Due.due("state(0)", x.state(0), Due.NOT);
            }
        }
        for (int method = 1; method <= 3; method++) {
            dueRun(x, 0, method, Due.NONE);
        }
    }

    private static void ofThisRun() {
        ClassStarts x = Due.classes(2);
        Due.act(x, 0, 0, Due.CALL, 1, 1);
        Due.act(x, 0, 0, Due.THROW, 2);
        Due.act(x, 1, 1, Due.ADD, 0, 0, 0);
        dueRun(x, 0, 1, 7);
        for (int times = 0; times < 3; times++) {
            Due.due("EVENTS", x.count(0), 5);
            Due.due("HALF SEEN", x.count(1), 1);
            Due.due("ACTS", x.count(2), 3);
            Due.due("throws", x.count(3), 2);
            Due.due("cause()", x.cause(), 2);
            Due.due("a run() that is refused leaves them", times == 0 ? x.run(2, 1) : x.run(0, 0),
                times == 0 ? Due.UNKNOWN : Due.OUTSIDE);
        }
        dueRun(x, 1, 2, Due.NONE);
        Due.dueEvents("of the next run()", x);
        for (int what = 0; what < 4; what++) {
            Due.due("count(" + what + ") of the next run()", x.count(what), 0);
        }
        Due.due("cause() of the next run()", x.cause(), Due.NONE);
    }

    private static void stateOfEach() {
        ClassStarts x = Due.kinds("FfCCPCPCCCCC");
        Due.act(x, 3, 0, Due.THROW, 0);
        Due.act(x, 11, 1, Due.MAKE, 6);
        dueRun(x, 4, 1, 7);
        dueRun(x, 11, 1, Due.NONE);
        int[] states = {Due.NOT, Due.NOT, Due.NOT, Due.FAILED, Due.FAILED, Due.DONE, Due.DONE, Due.NOT, Due.NOT,
            Due.NOT, Due.NOT, Due.DONE};
        for (int i = 0; i < 12; i++) {
            Due.due("state(" + i + ")", x.state(i), states[i]);
        }
    }

    private static void stateOfNoSuch() {
        ClassStarts x = Due.classes(2);
        for (int n : Due.WILD) {
            Due.due("state(" + n + ")", x.state(n), n == 0 || n == 1 ? Due.NOT : Due.UNKNOWN);
        }
        ClassStarts y = Due.classes(12);
        Due.due("state(11)", y.state(11), Due.NOT);
        Due.due("state(12)", y.state(12), Due.UNKNOWN);
    }

    private static void allNotAgain() {
        ClassStarts x = Due.kinds("FCP");
        x.bears(2, 0);
        Due.act(x, 1, 0, Due.THROW, 0);
        dueRun(x, 0, 1, Due.NONE);
        dueRun(x, 2, 1, 7);
        x.again();
        for (int i = 0; i < 3; i++) {
            Due.due("state(" + i + ")", x.state(i), Due.NOT);
        }
        dueRun(x, 1, 1, 7);
        Due.dueEvents("what FAILED is started", x, 0, 1, 2, 1);
        x.again();
        Due.due("all that was told stays: ahead(2, 0)", x.ahead(2, 0), 1);
        dueRun(x, 0, 1, Due.NONE);
        Due.dueEvents("what was DONE is started", x, 0, 0, 1, 0);
    }

    private static void fieldsAgain() {
        ClassStarts x = Due.kinds("FC");
        x.constant(1, 3, 17);
        x.constant(1, 0, 0);
        for (int kind = 0; kind < 2; kind++) {
            for (int f = 0; f < 4; f++) {
                Due.act(x, kind, 0, Due.SET, f, 5 + f);
            }
            dueRun(x, kind, 1, Due.NONE);
        }
        Due.due("field(1, 2)", x.field(1, 2), 7);
        x.again();
        for (int f = 0; f < 4; f++) {
            Due.due("field(0, " + f + ")", x.field(0, f), 0);
            Due.due("field(1, " + f + ")", x.field(1, f), f == 3 ? 17 : 0);
        }
        dueRun(x, 1, 1, Due.NONE);
        Due.due("field(1, 3), still CONSTANT", x.field(1, 3), 17);
        Due.due("field(1, 0), still CONSTANT", x.field(1, 0), 0);
        ClassStarts y = Due.classes(1);
        Due.act(y, 0, 0, Due.SET, 2, 9);
        Due.act(y, 0, 0, Due.THROW, 0);
        dueRun(y, 0, 1, 7);
        Due.due("field(0, 2) of one that FAILED", y.field(0, 2), 9);
        y.again();
        Due.due("field(0, 2)", y.field(0, 2), 0);
    }

    private static void rowsAgain() {
        ClassStarts x = Due.kinds("FC");
        for (int kind = 0; kind < 2; kind++) {
            Due.act(x, kind, 0, Due.SET, 0, kind);
            Due.act(x, kind, 0, Due.ROW, 0);
            Due.act(x, kind, 2, Due.IN, 1, 0);
            dueRun(x, kind, 2, kind == 0 ? 5 : Due.NONE);
            Due.due("row(" + kind + ")", x.row(kind), kind);
        }
        Due.due("item(1, 0)", x.item(1, 0), 1);
        x.again();
        Due.due("row(0), of 0 items before", x.row(0), Due.NONE);
        Due.due("row(1), of 1 item before", x.row(1), Due.NONE);
        Due.due("item(1, 0)", x.item(1, 0), 0);
    }

    private static void howManyAgain() {
        Due.due("of none", new ClassStarts().again(), 0);
        ClassStarts x = Due.classes(12);
        Due.due("of twelve that are NOT", x.again(), 0);
        Due.act(x, 1, 0, Due.THROW, 0);
        dueRun(x, 0, 1, Due.NONE);
        dueRun(x, 1, 1, 7);
        Due.due("one DONE, one FAILED", x.again(), 2);
        Due.due("at once once more", x.again(), 0);
        for (int i = 0; i < 12; i++) {
            dueRun(x, i, 1, i == 1 ? 7 : Due.NONE);
        }
        Due.due("all twelve", x.again(), 12);
    }
}
