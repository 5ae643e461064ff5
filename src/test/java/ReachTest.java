/** MAY, and promises 16 and 17: what could be WANTED, and what is ahead. */
public final class ReachTest {
    public static void main(String[] args) {
        hold();
        Due.end();
    }

    static void hold() {
        Sentence.holds(Sentence.EVENTS, "MAY of X and a METHOD: all that could be WANTED,", ReachTest::couldBeWanted);
        Sentence.holds(Sentence.EVENTS, "whatever is thrown or caught:", ReachTest::whateverIsThrown);
        Sentence.holds(Sentence.EVENTS, "whatever is thrown or caught: X;", ReachTest::itself);
        Sentence.holds(Sentence.EVENTS, "of each ACT of its METHODS that may be worked", ReachTest::eachAct);
        Sentence.holds(Sentence.EVENTS, "(that METHOD;", ReachTest::thatMethod);
        Sentence.holds(Sentence.EVENTS, "METHODS 0 of all that may be WANTED;", ReachTest::methodsZero);
        Sentence.holds(Sentence.EVENTS, "METHODS that their CALLS name)", ReachTest::calledMethods);
        Sentence.holds(Sentence.EVENTS, "what it WANTS;", ReachTest::whatItWants);
        Sentence.holds(Sentence.EVENTS, "with each CLASS its PARENT,", ReachTest::parents);
        Sentence.holds(Sentence.EVENTS, "and what is LOOKED THROUGH and has DEFAULTS.", ReachTest::lookedThrough);

        Sentence.holds(16, "MAY, as bits by numbers.", ReachTest::bitsByNumbers);
        Sentence.holds(16, "UNKNOWN;", ReachTest::mayOfNoSuch);
        Sentence.holds(16, "OUTSIDE: METHOD 0 .. 3.", ReachTest::mayOutside);

        Sentence.holds(17, "Whether y is the PARENT of X, one of that, and so on,", ReachTest::parentsAhead);
        Sentence.holds(17, "or is LOOKED THROUGH and has DEFAULTS by X (a CLASS)", ReachTest::facesAhead);
        Sentence.holds(17, "or one of these: 1, 0", ReachTest::facesOfParentsAhead);
        Sentence.holds(17, "(of X itself 0).", ReachTest::notItself);
        Sentence.holds(17, "UNKNOWN.", ReachTest::aheadOfNoSuch);
    }

    private static void dueMay(ClassStarts x, int kind, int method, int want) {
        Due.due("may(" + kind + ", " + method + ")", x.may(kind, method), want);
    }

    private static void dueAhead(ClassStarts x, int kind, int other, int want) {
        Due.due("ahead(" + kind + ", " + other + ")", x.ahead(kind, other), want);
    }

    private static void couldBeWanted() {
        ClassStarts x = Due.classes(3);
        Due.act(x, 0, 1, Due.MAKE, 1);
        Due.act(x, 1, 0, Due.MAKE, 2);
        Due.act(x, 2, 0, Due.THROW, 0);
        dueMay(x, 0, 1, 7);
        Due.due("state(0), nothing is started by that", x.state(0), Due.NOT);
        Due.due("run(0, 1)", x.run(0, 1), 7);
        dueMay(x, 0, 1, 7);
        Due.due("EVENTS stay", x.count(0), 6);
        x.again();
        dueMay(x, 0, 1, 7);
        Due.act(x, 2, 0, Due.MAKE, 0);
        dueMay(x, 2, 1, 5);
        ClassStarts deep = Due.classes(12);
        for (int i = 0; i < 11; i++) {
            Due.act(deep, i, 0, Due.MAKE, i + 1);
        }
        dueMay(deep, 0, 1, 4095);
    }

    private static void whateverIsThrown() {
        ClassStarts x = Due.classes(4);
        Due.act(x, 0, 0, Due.THROW, 0);
        Due.act(x, 0, 0, Due.MAKE, 1);
        Due.act(x, 0, 1, Due.TRY, 2, 3);
        Due.act(x, 0, 1, Due.THROW, 2);
        Due.act(x, 0, 1, Due.MAKE, 2);
        Due.act(x, 0, 1, Due.MAKE, 3);
        dueMay(x, 0, 1, 15);
        Due.due("run(0, 1)", x.run(0, 1), 7);
        Due.due("state(1)", x.state(1), Due.NOT);
        dueMay(x, 0, 1, 15);
    }

    private static void itself() {
        ClassStarts x = Due.kinds("FfC");
        for (int kind = 0; kind < 3; kind++) {
            for (int method = 0; method < 4; method++) {
                dueMay(x, kind, method, 1 << kind);
            }
        }
    }

    private static void eachAct() {
        for (int place = 0; place < 10; place++) {
            ClassStarts x = Due.classes(2);
            Due.logs(x, 0, 1, 1, place);
            Due.act(x, 0, 1, Due.MAKE, 1);
            Due.logs(x, 0, 1, place + 1, 9);
            dueMay(x, 0, 1, 3);
        }
        ClassStarts y = Due.classes(11);
        for (int i = 1; i < 11; i++) {
            Due.act(y, 0, 3, Due.MAKE, i);
        }
        dueMay(y, 0, 3, 2047);
    }

    private static void thatMethod() {
        for (int method = 0; method < 4; method++) {
            ClassStarts x = Due.classes(2);
            Due.act(x, 1, method, Due.MAKE, 0);
            for (int asked = 0; asked < 4; asked++) {
                dueMay(x, 1, asked, method == 0 || method == asked ? 3 : 2);
            }
        }
    }

    private static void methodsZero() {
        ClassStarts x = Due.kinds("FCPCCC");
        x.bears(1, 0);
        Due.act(x, 0, 0, Due.MAKE, 3);
        Due.act(x, 1, 0, Due.MAKE, 4);
        Due.act(x, 2, 0, Due.MAKE, 5);
        dueMay(x, 2, 1, 63);
        dueMay(x, 1, 1, 1 + 2 + 8 + 16);
        dueMay(x, 0, 1, 1 + 8);
        Due.act(x, 5, 1, Due.MAKE, 2);
        dueMay(x, 5, 1, 63);
        dueMay(x, 5, 2, 32);
    }

    private static void calledMethods() {
        ClassStarts x = Due.classes(6);
        Due.act(x, 0, 1, Due.CALL, 1, 2);
        Due.act(x, 1, 2, Due.CALL, 0, 3);
        Due.act(x, 0, 3, Due.MAKE, 2);
        Due.act(x, 2, 0, Due.CALL, 0, 1);
        Due.act(x, 2, 1, Due.MAKE, 3);
        Due.act(x, 1, 1, Due.MAKE, 4);
        Due.act(x, 1, 0, Due.MAKE, 5);
        dueMay(x, 0, 1, 1 + 2 + 4 + 32);
        dueMay(x, 0, 3, 1 + 4 + 2 + 32);
        dueMay(x, 0, 2, 1);
        dueMay(x, 1, 1, 2 + 16 + 32);
        dueMay(x, 2, 1, 4 + 8 + 1 + 2 + 32);
        dueMay(x, 0, 1, 1 + 2 + 4 + 32);
        ClassStarts chain = Due.chain(36);
        dueMay(chain, 0, 1, 4095);
        dueMay(chain, 11, 3, 1 << 11);
    }

    private static void whatItWants() {
        for (int sort = 0; sort <= 12; sort++) {
            ClassStarts x = Due.classes(3);
            Due.act(x, 1, 2, sort, 2, 2, 1);
            boolean wants = sort == Due.ADD || sort == Due.PUT || sort == Due.DIV || sort == Due.CALL
                || sort == Due.MAKE;
            Due.due("may(1, 2) of ACT " + sort, x.may(1, 2), wants ? 6 : 2);
        }
        for (int sort : new int[] {Due.ADD, Due.PUT, Due.DIV}) {
            ClassStarts x = Due.classes(2);
            Due.act(x, 0, 1, sort, 0, 1, 3);
            dueMay(x, 0, 1, 3);
            x.constant(1, 2, 5);
            dueMay(x, 0, 1, 3);
            x.constant(1, 3, 5);
            dueMay(x, 0, 1, 1);
        }
    }

    private static void parents() {
        ClassStarts x = Due.kinds("CPPPPPPPPPPP");
        for (int i = 0; i < 12; i++) {
            dueMay(x, i, 1, (2 << i) - 1);
        }
        ClassStarts y = Due.kinds("CPC");
        Due.act(y, 2, 1, Due.ADD, 0, 1, 0);
        dueMay(y, 2, 1, 7);
        Due.act(y, 0, 0, Due.MAKE, 1);
        dueMay(y, 0, 1, 3);
    }

    private static void lookedThrough() {
        ClassStarts x = Due.kinds("FfFCPPC");
        x.bears(1, 0);
        x.bears(3, 1);
        x.bears(5, 2);
        Due.act(x, 0, 0, Due.MAKE, 6);
        dueMay(x, 5, 1, 1 + 4 + 8 + 16 + 32 + 64);
        dueMay(x, 4, 1, 1 + 8 + 16 + 64);
        dueMay(x, 6, 1, 64);
        Due.act(x, 6, 2, Due.MAKE, 4);
        dueMay(x, 6, 2, 1 + 8 + 16 + 64);
        ClassStarts tower = Due.kinds("FffffffffffC");
        for (int i = 1; i < 12; i++) {
            tower.bears(i, i - 1);
        }
        dueMay(tower, 11, 1, 2049);
        dueMay(tower, 10, 1, 1024);
        ClassStarts face = Due.kinds("FFC");
        face.bears(1, 0);
        dueMay(face, 1, 1, 2);
        Due.act(face, 2, 1, Due.CALL, 1, 1);
        dueMay(face, 2, 1, 6);
    }

    private static void bitsByNumbers() {
        ClassStarts x = Due.classes(12);
        for (int i = 0; i < 12; i++) {
            dueMay(x, i, 1, 1 << i);
        }
        Due.act(x, 0, 1, Due.MAKE, 11);
        Due.act(x, 11, 1, Due.MAKE, 0);
        dueMay(x, 0, 1, 2049);
        dueMay(x, 11, 1, 2049);
        ClassStarts all = Due.classes(12);
        for (int i = 0; i < 12; i++) {
            for (int m = 0; m < 4; m++) {
                Due.act(all, i, m, Due.CALL, (i + 1) % 12, m % 3 + 1);
            }
        }
        for (int m = 0; m < 4; m++) {
            dueMay(all, 5, m, 4095);
        }
    }

    private static void mayOfNoSuch() {
        ClassStarts x = Due.classes(2);
        for (int n : Due.WILD) {
            dueMay(x, n, 0, n == 0 || n == 1 ? 1 << n : Due.UNKNOWN);
        }
    }

    private static void mayOutside() {
        ClassStarts x = Due.kinds("FC");
        for (int n : Due.WILD) {
            dueMay(x, 0, n, n >= 0 && n <= 3 ? 1 : Due.OUTSIDE);
            dueMay(x, 1, n, n >= 0 && n <= 3 ? 2 : Due.OUTSIDE);
        }
    }

    private static void parentsAhead() {
        ClassStarts x = Due.kinds("CPPPPPPPPPPP");
        for (int i = 0; i < 12; i++) {
            for (int k = 0; k < 12; k++) {
                dueAhead(x, i, k, k < i ? 1 : 0);
            }
        }
        ClassStarts y = Due.classes(2);
        Due.act(y, 1, 0, Due.MAKE, 0);
        dueAhead(y, 1, 0, 0);
        Due.due("state(1), nothing is started by that", y.state(1), Due.NOT);
    }

    private static void facesAhead() {
        ClassStarts x = Due.kinds("FfFfC");
        x.bears(1, 0);
        x.bears(2, 1);
        x.bears(4, 2);
        x.bears(4, 3);
        int[] due = {1, 0, 1, 0, 0};
        for (int y = 0; y < 5; y++) {
            dueAhead(x, 4, y, due[y]);
            dueAhead(x, 2, y, 0);
            dueAhead(x, y, 4, 0);
        }
        Due.due("run(0, 1)", x.run(0, 1), Due.NONE);
        dueAhead(x, 4, 0, 1);
        ClassStarts tower = Due.kinds("FffffffffffC");
        for (int i = 1; i < 12; i++) {
            tower.bears(i, i - 1);
        }
        dueAhead(tower, 11, 0, 1);
        dueAhead(tower, 11, 1, 0);
        dueAhead(tower, 10, 0, 0);
    }

    private static void facesOfParentsAhead() {
        ClassStarts x = Due.kinds("FfFCPF");
        x.made(4);
        x.bears(1, 0);
        x.bears(3, 1);
        x.bears(5, 2);
        x.bears(6, 5);
        int[][] due = {{6, 4, 1}, {6, 3, 1}, {6, 5, 1}, {6, 2, 1}, {6, 0, 1}, {6, 1, 0}, {6, 6, 0}, {4, 6, 0},
            {4, 3, 1}, {4, 0, 1}, {4, 1, 0}, {4, 5, 0}, {3, 0, 1}, {3, 2, 0}, {5, 2, 0}, {1, 0, 0}, {0, 1, 0}};
        for (int[] d : due) {
            dueAhead(x, d[0], d[1], d[2]);
        }
    }

    private static void notItself() {
        ClassStarts x = Due.kinds("FfCP");
        x.bears(3, 0);
        Due.act(x, 3, 0, Due.MAKE, 3);
        for (int i = 0; i < 4; i++) {
            dueAhead(x, i, i, 0);
        }
    }

    private static void aheadOfNoSuch() {
        ClassStarts x = Due.kinds("CP");
        for (int n : Due.WILD) {
            boolean there = n == 0 || n == 1;
            dueAhead(x, 1, n, there ? 1 - n : Due.UNKNOWN);
            dueAhead(x, n, 0, there ? n : Due.UNKNOWN);
            dueAhead(x, n, n, there ? 0 : Due.UNKNOWN);
        }
    }
}
