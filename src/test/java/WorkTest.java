/** What each ACT does, and promises 12, 13, 14; the THROWS of a division and of ROWS; CONSTANTS; HALF SEEN. */
public final class WorkTest {
    public static void main(String[] args) {
        hold();
        Due.end();
    }

    static void hold() {
        Sentence.holds(Sentence.ACTS, "ACTS of X, each with numbers a, b, c (X.f is FIELD f of X; "
            + "Z.g that of another one or of X itself)", WorkTest::anotherOrItself);
        Sentence.holds(Sentence.ACTS, "0 SET: X.a becomes b.", WorkTest::set);
        Sentence.holds(Sentence.ACTS, "1 ADD: X.a becomes it and Z.c, Z being b.", WorkTest::add);
        Sentence.holds(Sentence.ACTS, "2 PUT: Z.c, Z being b, becomes X.a.", WorkTest::put);
        Sentence.holds(Sentence.ACTS, "3 DIV: X.a becomes it by Z.c, Z being b", WorkTest::div);
        Sentence.holds(Sentence.ACTS, "(cut off toward 0).", WorkTest::divCutsOff);
        Sentence.holds(Sentence.ACTS, "4 ROW: X's ROW has as many items as X.a tells", WorkTest::rowOfAsMany);
        Sentence.holds(Sentence.ACTS, "(20, if it is more),", WorkTest::rowOfMore);
        Sentence.holds(Sentence.ACTS, "all 0.", WorkTest::rowAllZero);
        Sentence.holds(Sentence.ACTS, "5 IN: item X.a of X's ROW becomes X.b.", WorkTest::in);
        Sentence.holds(Sentence.ACTS, "6 OUT: X.a becomes item X.b of X's ROW.", WorkTest::out);
        Sentence.holds(Sentence.ACTS, "7 CALL: METHOD b (1 .. 3) of a.", WorkTest::call);
        Sentence.holds(Sentence.ACTS, "8 MAKE: one of a, a CLASS.", WorkTest::make);
        Sentence.holds(Sentence.ACTS, "10 LOG a.", WorkTest::log);
        Sentence.holds(Sentence.ACTS, "12 DROP: X's ROW is none.", WorkTest::drop);
        Sentence.holds(Sentence.ACTS, "Sums wrap.", WorkTest::sumsWrap);
        Sentence.holds(Sentence.ACTS, "3 division by 0.", WorkTest::divisionByZero);
        Sentence.holds(Sentence.ACTS, "4 no ROW.", WorkTest::noRow);
        Sentence.holds(Sentence.ACTS, "5 an item that there is not.", WorkTest::noItem);
        Sentence.holds(Sentence.ACTS, "6 a ROW of less than 0 items.", WorkTest::rowOfLess);

        Sentence.holds(Sentence.STARTS, "PUT to a CONSTANT FIELD,", WorkTest::putToConstant);
        Sentence.holds(Sentence.STARTS, "SET, ADD, DIV, OUT of an own one that is CONSTANT do nothing to it",
            WorkTest::ownConstant);
        Sentence.holds(Sentence.STARTS, "(all else of the ACT happens).", WorkTest::allElseHappens);
        Sentence.holds(Sentence.STARTS, "HALF SEEN: an ADD, DIV", WorkTest::halfSeen);
        Sentence.holds(Sentence.STARTS, "of a FIELD, not CONSTANT,", WorkTest::constantIsNotHalfSeen);
        Sentence.holds(Sentence.STARTS, "of another one", WorkTest::itselfIsNotHalfSeen);
        Sentence.holds(Sentence.STARTS, "that is IN WORK when it is read.", WorkTest::halfSeenWhenRead);

        Sentence.holds(12, "FIELD f of X.", WorkTest::field);
        Sentence.holds(12, "0: there is none such.", WorkTest::noSuchField);
        Sentence.holds(13, "How many items X's ROW has;", WorkTest::rowsOfEach);
        Sentence.holds(13, "NONE: it has none.", WorkTest::rowOfNone);
        Sentence.holds(13, "UNKNOWN.", WorkTest::rowOfNoSuch);
        Sentence.holds(14, "Item i of X's ROW.", WorkTest::item);
        Sentence.holds(14, "0: there is none such.", WorkTest::noSuchItem);
    }

    private static void dueFields(ClassStarts x, int kind, int... values) {
        for (int f = 0; f < 4; f++) {
            Due.due("field(" + kind + ", " + f + ")", x.field(kind, f), values[f]);
        }
    }

    private static void dueRun(ClassStarts x, int kind, int method, int want) {
        Due.due("run(" + kind + ", " + method + ")", x.run(kind, method), want);
    }

    private static void anotherOrItself() {
        ClassStarts x = Due.classes(2);
        Due.act(x, 1, 0, Due.SET, 1, 100);
        Due.act(x, 0, 1, Due.SET, 1, 5);
        Due.act(x, 0, 1, Due.SET, 2, 12);
        Due.act(x, 0, 1, Due.ADD, 0, 0, 1);
        Due.act(x, 0, 1, Due.ADD, 0, 1, 1);
        Due.act(x, 0, 1, Due.DIV, 2, 0, 1);
        Due.act(x, 0, 1, Due.PUT, 1, 0, 3);
        Due.act(x, 0, 1, Due.PUT, 2, 1, 3);
        dueRun(x, 0, 1, Due.NONE);
        dueFields(x, 0, 105, 5, 2, 5);
        dueFields(x, 1, 0, 100, 0, 2);
    }

    private static void set() {
        for (int value : Due.WILD) {
            for (int f = 0; f < 4; f++) {
                ClassStarts x = Due.classes(2);
                Due.act(x, 0, 1, Due.SET, f, value);
                dueRun(x, 0, 1, Due.NONE);
                dueFields(x, 0, f == 0 ? value : 0, f == 1 ? value : 0, f == 2 ? value : 0, f == 3 ? value : 0);
                dueFields(x, 1, 0, 0, 0, 0);
            }
        }
    }

    private static void add() {
        ClassStarts x = Due.classes(2);
        Due.act(x, 1, 0, Due.SET, 2, 30);
        Due.act(x, 0, 1, Due.SET, 0, -7);
        Due.act(x, 0, 1, Due.ADD, 0, 1, 2);
        Due.act(x, 0, 1, Due.SET, 3, 9);
        Due.act(x, 0, 1, Due.ADD, 3, 0, 3);
        dueRun(x, 0, 1, Due.NONE);
        dueFields(x, 0, 23, 0, 0, 18);
        dueFields(x, 1, 0, 0, 30, 0);
    }

    private static void put() {
        ClassStarts x = Due.kinds("FC");
        Due.act(x, 1, 1, Due.SET, 0, 11);
        Due.act(x, 1, 1, Due.SET, 3, 44);
        Due.act(x, 1, 1, Due.PUT, 0, 0, 3);
        Due.act(x, 1, 1, Due.PUT, 3, 0, 0);
        Due.act(x, 1, 1, Due.PUT, 3, 1, 2);
        Due.act(x, 1, 1, Due.PUT, 0, 1, 0);
        dueRun(x, 1, 1, Due.NONE);
        dueFields(x, 0, 44, 0, 0, 11);
        dueFields(x, 1, 11, 0, 44, 44);
    }

    /** What is left in X.0 after a DIV, Z being another one. */
    private static int divided(int value, int by) {
        ClassStarts x = Due.classes(2);
        Due.act(x, 1, 0, Due.SET, 3, by);
        Due.act(x, 0, 1, Due.SET, 0, value);
        Due.act(x, 0, 1, Due.DIV, 0, 1, 3);
        dueRun(x, 0, 1, by == 0 ? 3 : Due.NONE);
        Due.due("the divisor stays", x.field(1, 3), by);
        return x.field(0, 0);
    }

    private static void div() {
        Due.due("12 by 3", divided(12, 3), 4);
        Due.due("0 by 5", divided(0, 5), 0);
        Due.due("MIN by 1", divided(Due.MIN, 1), Due.MIN);
        Due.due("MIN by MIN", divided(Due.MIN, Due.MIN), 1);
        Due.due("MAX by -1", divided(Due.MAX, -1), -Due.MAX);
        Due.due("MIN by -1", divided(Due.MIN, -1), Due.MIN);
        ClassStarts x = Due.classes(1);
        Due.act(x, 0, 1, Due.SET, 2, -9);
        Due.act(x, 0, 1, Due.DIV, 2, 0, 2);
        dueRun(x, 0, 1, Due.NONE);
        Due.due("one by itself", x.field(0, 2), 1);
    }

    private static void divCutsOff() {
        Due.due("7 by 2", divided(7, 2), 3);
        Due.due("-7 by 2", divided(-7, 2), -3);
        Due.due("7 by -2", divided(7, -2), -3);
        Due.due("-7 by -2", divided(-7, -2), 3);
        Due.due("1 by 2", divided(1, 2), 0);
        Due.due("-1 by 2", divided(-1, 2), 0);
        Due.due("MAX by MIN", divided(Due.MAX, Due.MIN), 0);
        Due.due("MIN by MAX", divided(Due.MIN, Due.MAX), -1);
    }

    /** METHOD 1 makes a ROW of so many items. */
    private static ClassStarts withRow(int items) {
        ClassStarts x = Due.classes(1);
        Due.act(x, 0, 1, Due.SET, 0, items);
        Due.act(x, 0, 1, Due.ROW, 0);
        return x;
    }

    private static void rowOfAsMany() {
        for (int n = 0; n <= 20; n++) {
            ClassStarts x = withRow(n);
            dueRun(x, 0, 1, Due.NONE);
            Due.due("row(0) of " + n, x.row(0), n);
        }
        for (int f = 0; f < 4; f++) {
            ClassStarts x = Due.classes(1);
            Due.act(x, 0, 1, Due.SET, f, 7);
            Due.act(x, 0, 1, Due.ROW, f);
            dueRun(x, 0, 1, Due.NONE);
            Due.due("row(0) told by FIELD " + f, x.row(0), 7);
        }
    }

    private static void rowOfMore() {
        for (int n : new int[] {20, 21, 22, 1000, Due.MAX}) {
            ClassStarts x = withRow(n);
            Due.act(x, 0, 1, Due.SET, 1, 19);
            Due.act(x, 0, 1, Due.IN, 1, 1);
            Due.act(x, 0, 2, Due.SET, 1, 20);
            Due.act(x, 0, 2, Due.IN, 1, 1);
            dueRun(x, 0, 1, Due.NONE);
            Due.due("row(0) of " + n, x.row(0), 20);
            Due.due("item(0, 19), the last", x.item(0, 19), 19);
            dueRun(x, 0, 2, 5);
            Due.due("X.a stays", x.field(0, 0), n);
        }
    }

    private static void rowAllZero() {
        ClassStarts x = withRow(20);
        for (int i : new int[] {0, 19}) {
            Due.act(x, 0, 2, Due.SET, 1, i);
            Due.act(x, 0, 2, Due.SET, 2, 70 + i);
            Due.act(x, 0, 2, Due.IN, 1, 2);
        }
        Due.act(x, 0, 3, Due.SET, 0, 3);
        Due.act(x, 0, 3, Due.ROW, 0);
        dueRun(x, 0, 1, Due.NONE);
        dueRun(x, 0, 2, Due.NONE);
        Due.due("item(0, 19)", x.item(0, 19), 89);
        dueRun(x, 0, 3, Due.NONE);
        Due.due("item(0, 0) of a smaller one", x.item(0, 0), 0);
        dueRun(x, 0, 1, Due.NONE);
        for (int i = 0; i < 20; i++) {
            Due.due("item(0, " + i + ") of a new one", x.item(0, i), 0);
        }
    }

    private static void in() {
        for (int i : new int[] {0, 1, 4}) {
            ClassStarts x = withRow(5);
            Due.act(x, 0, 1, Due.SET, 1, i);
            Due.act(x, 0, 1, Due.SET, 3, 77);
            Due.act(x, 0, 1, Due.IN, 1, 3);
            dueRun(x, 0, 1, Due.NONE);
            for (int k = 0; k < 5; k++) {
                Due.due("item(0, " + k + ")", x.item(0, k), k == i ? 77 : 0);
            }
            dueFields(x, 0, 5, i, 0, 77);
        }
        ClassStarts y = withRow(5);
        Due.act(y, 0, 1, Due.SET, 1, 3);
        Due.act(y, 0, 1, Due.IN, 1, 1);
        dueRun(y, 0, 1, Due.NONE);
        Due.due("item X.a becomes X.a", y.item(0, 3), 3);
    }

    private static void out() {
        for (int i : new int[] {0, 1, 4}) {
            ClassStarts x = withRow(5);
            for (int k = 0; k < 5; k++) {
                Due.act(x, 0, 2, Due.IN, 2, 2);
                Due.act(x, 0, 2, Due.ADD, 2, 0, 3);
            }
            Due.act(x, 0, 1, Due.SET, 3, 1);
            Due.act(x, 0, 3, Due.SET, 1, i);
            Due.act(x, 0, 3, Due.SET, 0, 99);
            Due.act(x, 0, 3, Due.OUT, 0, 1);
            dueRun(x, 0, 1, Due.NONE);
            dueRun(x, 0, 2, Due.NONE);
            dueRun(x, 0, 3, Due.NONE);
            Due.due("X.a becomes item " + i, x.field(0, 0), i);
            Due.due("item(0, " + i + ") stays", x.item(0, i), i);
        }
        ClassStarts y = withRow(2);
        Due.act(y, 0, 1, Due.SET, 2, 1);
        Due.act(y, 0, 1, Due.SET, 3, 55);
        Due.act(y, 0, 1, Due.IN, 2, 3);
        Due.act(y, 0, 1, Due.OUT, 2, 2);
        dueRun(y, 0, 1, Due.NONE);
        Due.due("X.a becomes item X.a", y.field(0, 2), 55);
    }

    private static void call() {
        for (int kind = 0; kind < 3; kind++) {
            for (int method = 1; method <= 3; method++) {
                ClassStarts x = Due.kinds("FCC");
                for (int m = 1; m <= 3; m++) {
                    Due.act(x, 0, m, Due.LOG, m);
                    Due.act(x, 1, m, Due.LOG, 10 + m);
                }
                Due.logs(x, 2, 2, 22, 22);
                Due.logs(x, 2, 3, 23, 23);
                boolean itself = kind == 2 && method == 1;
                Due.act(x, 2, 1, Due.CALL, kind, itself ? 2 : method);
                Due.act(x, 2, 1, Due.LOG, 99);
                dueRun(x, 2, 1, Due.NONE);
                int n = x.count(0);
                Due.due("it is entered", x.event(n - 3, 1), 10 * kind + (itself ? 2 : method));
                Due.due("its LOG", x.event(n - 2, 1), 10 * kind + (itself ? 2 : method));
                Due.due("then the METHOD goes on", x.event(n - 1, 1), 99);
            }
        }
        ClassStarts y = Due.classes(1);
        Due.due("METHOD 0", y.act(0, 1, Due.CALL, 0, 0, 0), Due.OUTSIDE);
        Due.due("METHOD 4", y.act(0, 1, Due.CALL, 0, 4, 0), Due.OUTSIDE);
    }

    private static void make() {
        ClassStarts x = Due.kinds("FCC");
        Due.logs(x, 1, 1, 1, 1);
        Due.act(x, 2, 1, Due.MAKE, 1);
        Due.act(x, 2, 1, Due.MAKE, 2);
        dueRun(x, 2, 1, Due.NONE);
        Due.dueEvents("no METHOD is entered", x, 0, 2, 1, 2, 0, 1, 1, 1);
        Due.due("one of a FACE", Due.kinds("FC").act(1, 1, Due.MAKE, 0, 0, 0), Due.STATE);
    }

    private static void log() {
        ClassStarts x = Due.classes(1);
        for (int i = 0; i < 10; i++) {
            Due.act(x, 0, 1, Due.LOG, Due.WILD[3 * i]);
        }
        dueRun(x, 0, 1, Due.NONE);
        for (int i = 0; i < 10; i++) {
            Due.due("event(" + (2 + i) + ", 0)", x.event(2 + i, 0), 3);
            Due.due("event(" + (2 + i) + ", 1)", x.event(2 + i, 1), Due.WILD[3 * i]);
        }
        Due.due("EVENTS", x.count(0), 12);
    }

    private static void drop() {
        ClassStarts x = withRow(4);
        Due.act(x, 0, 2, Due.DROP, 0);
        Due.act(x, 0, 3, Due.IN, 1, 0);
        Due.due("row(0) at first", x.row(0), Due.NONE);
        dueRun(x, 0, 2, Due.NONE);
        Due.due("row(0), none was dropped", x.row(0), Due.NONE);
        dueRun(x, 0, 1, Due.NONE);
        dueRun(x, 0, 3, Due.NONE);
        Due.due("item(0, 0)", x.item(0, 0), 4);
        dueRun(x, 0, 2, Due.NONE);
        Due.due("row(0) dropped", x.row(0), Due.NONE);
        Due.due("item(0, 0) dropped", x.item(0, 0), 0);
        dueRun(x, 0, 3, 4);
        dueRun(x, 0, 1, Due.NONE);
        Due.due("row(0) made anew", x.row(0), 4);
        Due.due("item(0, 0) made anew", x.item(0, 0), 0);
    }

    private static int sum(int one, int other) {
        ClassStarts x = Due.classes(1);
        Due.act(x, 0, 1, Due.SET, 0, one);
        Due.act(x, 0, 1, Due.SET, 1, other);
        Due.act(x, 0, 1, Due.ADD, 0, 0, 1);
        dueRun(x, 0, 1, Due.NONE);
        return x.field(0, 0);
    }

    private static void sumsWrap() {
        Due.due("MAX and 0", sum(Due.MAX, 0), Due.MAX);
        Due.due("MAX and 1", sum(Due.MAX, 1), Due.MIN);
        Due.due("MIN and -1", sum(Due.MIN, -1), Due.MAX);
        Due.due("MAX and MAX", sum(Due.MAX, Due.MAX), -2);
        Due.due("MIN and MIN", sum(Due.MIN, Due.MIN), 0);
        Due.due("MAX and MIN", sum(Due.MAX, Due.MIN), -1);
    }

    private static void divisionByZero() {
        for (int value : new int[] {0, 7, -7, Due.MIN, Due.MAX}) {
            Due.due(value + " by 0", divided(value, 0), value);
        }
        Due.due("7 by 1", divided(7, 1), 7);
        Due.due("7 by -1", divided(7, -1), -7);
    }

    /** What is thrown by an IN or OUT of item i of a ROW of so many items, NONE: of none. */
    private static int thrownBy(int sort, int items, int i) {
        ClassStarts x = items == Due.NONE ? Due.classes(1) : withRow(items);
        Due.act(x, 0, 1, Due.SET, 1, i);
        Due.act(x, 0, 1, Due.SET, 2, 60);
        Due.act(x, 0, 1, sort, sort == Due.IN ? 1 : 2, sort == Due.IN ? 2 : 1);
        int thrown = x.run(0, 1);
        Due.due("X.2", x.field(0, 2), sort == Due.OUT && thrown == Due.NONE ? 0 : 60);
        return thrown;
    }

    private static void noRow() {
        for (int sort : new int[] {Due.IN, Due.OUT}) {
            for (int i : Due.WILD) {
                Due.due("item " + i + " of no ROW", thrownBy(sort, Due.NONE, i), 4);
            }
            Due.due("a ROW of 0 items is one", thrownBy(sort, 0, 0), 5);
        }
    }

    private static void noItem() {
        for (int sort : new int[] {Due.IN, Due.OUT}) {
            for (int items : new int[] {0, 1, 2, 19, 20}) {
                for (int i : Due.WILD) {
                    Due.due("ACT " + sort + " of item " + i + " of " + items, thrownBy(sort, items, i),
                        i >= 0 && i < items ? Due.NONE : 5);
                }
            }
        }
    }

    private static void rowOfLess() {
        for (int n : Due.WILD) {
            ClassStarts x = withRow(n);
            dueRun(x, 0, 1, n < 0 ? 6 : Due.NONE);
            Due.due("row(0) of " + n, x.row(0), n < 0 ? Due.NONE : Math.min(n, 20));
        }
        ClassStarts y = withRow(4);
        Due.act(y, 0, 2, Due.SET, 0, -1);
        Due.act(y, 0, 2, Due.ROW, 0);
        dueRun(y, 0, 1, Due.NONE);
        dueRun(y, 0, 2, 6);
        Due.due("the ROW before stays", y.row(0), 4);
    }

    private static void putToConstant() {
        ClassStarts x = Due.classes(2);
        x.constant(0, 1, 4);
        x.constant(1, 2, 3);
        Due.act(x, 0, 1, Due.SET, 0, 50);
        Due.act(x, 0, 1, Due.PUT, 0, 1, 2);
        Due.act(x, 0, 1, Due.PUT, 0, 0, 1);
        Due.act(x, 0, 1, Due.PUT, 0, 1, 3);
        dueRun(x, 0, 1, Due.NONE);
        dueFields(x, 0, 50, 4, 0, 0);
        dueFields(x, 1, 0, 0, 3, 50);
    }

    private static void ownConstant() {
        ClassStarts x = Due.classes(2);
        x.constant(0, 0, 8);
        x.constant(1, 2, 3);
        Due.act(x, 0, 1, Due.SET, 0, 1);
        Due.act(x, 0, 1, Due.ADD, 0, 1, 2);
        Due.act(x, 0, 1, Due.DIV, 0, 1, 2);
        Due.act(x, 0, 1, Due.ROW, 0);
        Due.act(x, 0, 1, Due.OUT, 0, 1);
        dueRun(x, 0, 1, Due.NONE);
        dueFields(x, 0, 8, 0, 0, 0);
        Due.due("ACTS", x.count(2), 5);
    }

    private static void allElseHappens() {
        ClassStarts x = Due.classes(3);
        x.constant(0, 0, 8);
        x.constant(1, 0, 0);
        Due.act(x, 0, 1, Due.DIV, 0, 1, 0);
        Due.act(x, 0, 2, Due.OUT, 0, 0);
        Due.act(x, 0, 3, Due.ADD, 0, 1, 1);
        Due.act(x, 0, 3, Due.ROW, 0);
        Due.act(x, 0, 3, Due.OUT, 0, 0);
        dueRun(x, 0, 1, 3);
        dueRun(x, 0, 2, 4);
        dueRun(x, 0, 3, 5);
        Due.due("an ADD to a CONSTANT one WANTS", x.state(1), Due.DONE);
        Due.due("a CONSTANT one tells how many items", x.row(0), 8);
        ClassStarts y = Due.classes(2);
        y.constant(0, 0, 8);
        Due.act(y, 0, 1, Due.DIV, 0, 1, 1);
        Due.act(y, 1, 0, Due.CALL, 0, 2);
        Due.act(y, 0, 2, Due.ADD, 0, 1, 1);
        dueRun(y, 0, 1, 3);
        Due.due("a DIV of a CONSTANT one WANTS", y.state(1), Due.DONE);
        Due.due("an ADD to a CONSTANT one sees half", y.count(1), 1);
    }

    /** Of a run() in which 1 is IN WORK while METHOD 1 of 0 is worked, how many are HALF SEEN. */
    private static int halfSeenBy(int sort, int other, int f) {
        ClassStarts x = Due.classes(2);
        x.constant(1, 3, 2);
        Due.act(x, 1, 0, Due.SET, 0, 6);
        Due.act(x, 1, 0, Due.CALL, 0, 1);
        Due.act(x, 0, 1, Due.SET, 2, 12);
        Due.act(x, 0, 1, sort, 2, other, f);
        dueRun(x, 1, 1, Due.NONE);
        int seen = x.count(1);
        dueRun(x, 0, 1, Due.NONE);
        Due.due("HALF SEEN when 1 is DONE", x.count(1), 0);
        return seen;
    }

    private static void halfSeen() {
        Due.due("by ADD", halfSeenBy(Due.ADD, 1, 0), 1);
        Due.due("by DIV", halfSeenBy(Due.DIV, 1, 0), 1);
        Due.due("by PUT, which reads none", halfSeenBy(Due.PUT, 1, 0), 0);
    }

    private static void constantIsNotHalfSeen() {
        Due.due("by ADD", halfSeenBy(Due.ADD, 1, 3), 0);
        Due.due("by DIV", halfSeenBy(Due.DIV, 1, 3), 0);
        Due.due("another FIELD of the same one", halfSeenBy(Due.ADD, 1, 2), 1);
    }

    private static void itselfIsNotHalfSeen() {
        Due.due("of itself, DONE", halfSeenBy(Due.ADD, 0, 2), 0);
        ClassStarts x = Due.classes(2);
        Due.act(x, 0, 0, Due.SET, 1, 3);
        Due.act(x, 0, 0, Due.ADD, 0, 0, 1);
        Due.act(x, 0, 0, Due.DIV, 0, 0, 1);
        Due.act(x, 0, 0, Due.CALL, 0, 2);
        Due.act(x, 0, 2, Due.ADD, 0, 0, 1);
        dueRun(x, 0, 1, Due.NONE);
        Due.due("of itself, IN WORK", x.count(1), 0);
    }

    private static void halfSeenWhenRead() {
        ClassStarts x = Due.classes(2);
        x.constant(0, 3, 9);
        Due.act(x, 1, 0, Due.CALL, 0, 1);
        Due.act(x, 0, 1, Due.ADD, 3, 1, 1);
        Due.act(x, 0, 1, Due.ADD, 2, 1, 1);
        Due.act(x, 0, 1, Due.DIV, 2, 1, 1);
        dueRun(x, 1, 1, 7);
        Due.due("the CAUSE", x.cause(), 3);
        Due.due("what divides by 0 was read too", x.count(1), 3);
        dueRun(x, 0, 1, 8);
        Due.due("what FAILED is not read", x.count(1), 0);
        ClassStarts y = Due.classes(2);
        Due.act(y, 0, 1, Due.ADD, 0, 1, 0);
        dueRun(y, 0, 1, Due.NONE);
        Due.due("what was WANTED is DONE when it is read", y.count(1), 0);
    }

    private static void field() {
        ClassStarts x = Due.kinds("FC");
        for (int f = 0; f < 4; f++) {
            Due.act(x, 0, 0, Due.SET, f, 10 + f);
            Due.act(x, 1, 0, Due.SET, f, 20 + f);
        }
        dueRun(x, 1, 1, Due.NONE);
        dueFields(x, 0, 0, 0, 0, 0);
        dueFields(x, 1, 20, 21, 22, 23);
        dueRun(x, 0, 1, Due.NONE);
        dueFields(x, 0, 10, 11, 12, 13);
    }

    private static void noSuchField() {
        ClassStarts x = Due.classes(2);
        for (int f = 0; f < 4; f++) {
            x.constant(0, f, 5);
            x.constant(1, f, 6);
        }
        for (int n : Due.WILD) {
            Due.due("field(0, " + n + ")", x.field(0, n), n >= 0 && n < 4 ? 5 : 0);
            Due.due("field(1, " + n + ")", x.field(1, n), n >= 0 && n < 4 ? 6 : 0);
            Due.due("field(" + n + ", 3)", x.field(n, 3), n == 0 ? 5 : n == 1 ? 6 : 0);
            Due.due("field(" + n + ", " + n + ")", x.field(n, n), n == 0 ? 5 : n == 1 ? 6 : 0);
        }
    }

    private static void rowsOfEach() {
        ClassStarts x = Due.classes(12);
        for (int kind = 0; kind < 12; kind++) {
            Due.act(x, kind, 0, Due.SET, 0, 2 * kind);
            Due.act(x, kind, 0, Due.ROW, 0);
            dueRun(x, kind, 1, Due.NONE);
        }
        for (int kind = 0; kind < 12; kind++) {
            Due.due("row(" + kind + ")", x.row(kind), kind == 11 ? 20 : 2 * kind);
        }
    }

    private static void rowOfNone() {
        ClassStarts x = Due.kinds("FC");
        Due.due("row(0), NOT", x.row(0), Due.NONE);
        dueRun(x, 0, 1, Due.NONE);
        Due.due("row(0), DONE", x.row(0), Due.NONE);
        Due.act(x, 1, 0, Due.SET, 0, -1);
        Due.act(x, 1, 0, Due.ROW, 0);
        dueRun(x, 1, 1, 7);
        Due.due("row(1), none was made", x.row(1), Due.NONE);
        ClassStarts y = withRow(0);
        dueRun(y, 0, 1, Due.NONE);
        Due.due("row(0), one of 0 items", y.row(0), 0);
    }

    private static void rowOfNoSuch() {
        ClassStarts x = withRow(3);
        dueRun(x, 0, 1, Due.NONE);
        for (int n : Due.WILD) {
            Due.due("row(" + n + ")", x.row(n), n == 0 ? 3 : Due.UNKNOWN);
        }
    }

    private static void item() {
        ClassStarts x = Due.classes(2);
        for (int kind = 0; kind < 2; kind++) {
            Due.act(x, kind, 0, Due.SET, 0, 2);
            Due.act(x, kind, 0, Due.ROW, 0);
            Due.act(x, kind, 0, Due.SET, 1, 1);
            Due.act(x, kind, 0, Due.SET, 2, 30 + kind);
            Due.act(x, kind, 0, Due.IN, 1, 2);
            Due.act(x, kind, 0, Due.SET, 1, 0);
            Due.act(x, kind, 0, Due.SET, 2, 40 + kind);
            Due.act(x, kind, 0, Due.IN, 1, 2);
            dueRun(x, kind, 1, Due.NONE);
        }
        Due.due("item(0, 0)", x.item(0, 0), 40);
        Due.due("item(0, 1)", x.item(0, 1), 30);
        Due.due("item(1, 0)", x.item(1, 0), 41);
        Due.due("item(1, 1)", x.item(1, 1), 31);
    }

    private static void noSuchItem() {
        ClassStarts x = withRow(20);
        for (int i : new int[] {0, 19}) {
            Due.act(x, 0, 1, Due.SET, 1, i);
            Due.act(x, 0, 1, Due.IN, 1, 0);
        }
        Due.act(x, 0, 2, Due.SET, 1, 19);
        Due.act(x, 0, 2, Due.ROW, 1);
        Due.due("item(0, 0), no ROW", x.item(0, 0), 0);
        dueRun(x, 0, 1, Due.NONE);
        for (int n : Due.WILD) {
            Due.due("item(0, " + n + ")", x.item(0, n), n == 0 || n == 19 ? 20 : 0);
            Due.due("item(" + n + ", 0)", x.item(n, 0), n == 0 ? 20 : 0);
            Due.due("item(" + n + ", " + n + ")", x.item(n, n), n == 0 ? 20 : 0);
        }
        dueRun(x, 0, 2, Due.NONE);
        Due.due("item(0, 19), behind a smaller ROW", x.item(0, 19), 0);
    }
}
