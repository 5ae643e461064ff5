/** The ACT TRY, sentence by sentence: what it guards, by what, and where a METHOD goes on. */
public final class TryTest {
    public static void main(String[] args) {
        hold();
        Due.end();
    }

    static void hold() {
        Sentence.holds(Sentence.ACTS, "11 TRY: the next a ACTS (1 .. 9;", TryTest::nextActs);
        Sentence.holds(Sentence.ACTS, "as far as there are,", TryTest::asFarAsThereAre);
        Sentence.holds(Sentence.ACTS, "within those of a TRY around it)", TryTest::withinTheOneAround);
        Sentence.holds(Sentence.ACTS, "within those of a TRY around it)", TryTest::withinTwoAround);
        Sentence.holds(Sentence.ACTS, "are GUARDED by b (0 .. 9, NONE):", TryTest::guardedBy);
        Sentence.holds(Sentence.ACTS, "a throw of b", TryTest::throwOfB);
        Sentence.holds(Sentence.ACTS, "(NONE: any but 10)", TryTest::anyButTen);
        Sentence.holds(Sentence.ACTS, "that arises in them,", TryTest::arisesInThem);
        Sentence.holds(Sentence.ACTS, "and was not caught within,", TryTest::notCaughtWithin);
        Sentence.holds(Sentence.ACTS, "ends them,", TryTest::endsThem);
        Sentence.holds(Sentence.ACTS, "and the METHOD goes on behind them.", TryTest::goesOnBehind);
    }

    /** The LOGS of the latest run(), as bits by their numbers. */
    private static int logged(ClassStarts x) {
        int bits = 0;
        for (int i = 0; i < x.count(0); i++) {
            if (x.event(i, 0) == 3) {
                bits |= 1 << x.event(i, 1);
            }
        }
        return bits;
    }

    /** Bits from .. to; none, if to is less. */
    private static int bits(int from, int to) {
        int bits = 0;
        for (int i = from; i <= to; i++) {
            bits |= 1 << i;
        }
        return bits;
    }

    /** A LOG at each place from .. 9 but at one, where 0 is thrown. */
    private static void logsAndOneThrow(ClassStarts x, int from, int place) {
        for (int i = from; i < 10; i++) {
            Due.act(x, 0, 1, i == place ? Due.THROW : Due.LOG, i == place ? 0 : i);
        }
    }

    private static void nextActs() {
        for (int a = 1; a <= 9; a++) {
            for (int place = 1; place <= 9; place++) {
                ClassStarts x = Due.classes(1);
                Due.act(x, 0, 1, Due.TRY, a, 0);
                logsAndOneThrow(x, 1, place);
                boolean caught = place <= a;
                String name = "a TRY of " + a + ", thrown at " + place;
                Due.due(name, x.run(0, 1), caught ? Due.NONE : 0);
                Due.due(name + ": LOGS", logged(x), bits(1, place - 1) | (caught ? bits(a + 1, 9) : 0));
            }
        }
        Due.due("a TRY of 0", Due.classes(1).act(0, 1, Due.TRY, 0, 0, 0), Due.OUTSIDE);
        Due.due("a TRY of 10", Due.classes(1).act(0, 1, Due.TRY, 10, 0, 0), Due.OUTSIDE);
    }

    private static void asFarAsThereAre() {
        for (int place = 0; place <= 8; place++) {
            ClassStarts x = Due.classes(1);
            Due.logs(x, 0, 1, 1, place);
            Due.act(x, 0, 1, Due.TRY, 9, 2);
            Due.act(x, 0, 1, Due.THROW, 2);
            Due.due("a TRY of 9, the last but one", x.run(0, 1), Due.NONE);
            Due.due("ACTS", x.count(2), place + 2);
        }
        ClassStarts last = Due.classes(1);
        Due.logs(last, 0, 1, 1, 9);
        Due.act(last, 0, 1, Due.TRY, 9, 0);
        Due.due("a TRY as the tenth", last.run(0, 1), Due.NONE);
        Due.due("ACTS", last.count(2), 10);
        ClassStarts other = Due.classes(1);
        Due.act(other, 0, 2, Due.TRY, 9, 0);
        Due.act(other, 0, 1, Due.CALL, 0, 2);
        Due.act(other, 0, 1, Due.THROW, 0);
        Due.due("it guards nothing of another METHOD", other.run(0, 1), 0);
        ClassStarts later = Due.classes(1);
        Due.act(later, 0, 1, Due.TRY, 9, 0);
        Due.due("a TRY alone", later.run(0, 1), Due.NONE);
        later.again();
        Due.act(later, 0, 1, Due.LOG, 1);
        Due.act(later, 0, 1, Due.THROW, 0);
        Due.due("it guards what is told later", later.run(0, 1), Due.NONE);
    }

    /** An outer TRY of 1 at place 0, an inner one of 0, and 0 thrown behind it. */
    private static void innerAndOuter(int outer, int inner, int length, int place) {
        ClassStarts x = Due.classes(1);
        Due.act(x, 0, 1, Due.TRY, outer, 1);
        Due.logs(x, 0, 1, 1, inner - 1);
        Due.act(x, 0, 1, Due.TRY, length, 0);
        logsAndOneThrow(x, inner + 1, place);
        int end = inner <= outer ? Math.min(inner + length, outer) : inner + length;
        boolean caught = place <= end;
        String name = "a TRY of " + length + " at " + inner + " in one of " + outer + ", thrown at " + place;
        Due.due(name, x.run(0, 1), caught ? Due.NONE : 0);
        int before = bits(1, place - 1) & ~(1 << inner);
        Due.due(name + ": LOGS", logged(x), before | (caught ? bits(end + 1, 9) : 0));
    }

    private static void withinTheOneAround() {
        for (int outer = 1; outer <= 9; outer++) {
            for (int inner = 1; inner <= 8; inner++) {
                for (int length = 1; length <= 9; length++) {
                    for (int place = inner + 1; place <= 9; place++) {
                        innerAndOuter(outer, inner, length, place);
                    }
                }
            }
        }
    }

    private static void withinTwoAround() {
        ClassStarts x = Due.classes(1);
        Due.act(x, 0, 1, Due.TRY, 4, 1);
        Due.act(x, 0, 1, Due.TRY, 2, 2);
        Due.act(x, 0, 1, Due.TRY, 9, 0);
        Due.act(x, 0, 1, Due.THROW, 0);
        Due.act(x, 0, 1, Due.LOG, 1);
        Due.act(x, 0, 1, Due.THROW, 1);
        Due.due("the nearest one cuts", x.run(0, 1), 1);
        Due.dueEvents("the nearest one cuts", x, 0, 0, 1, 0, 3, 1);
        ClassStarts y = Due.classes(1);
        Due.act(y, 0, 1, Due.TRY, 3, 1);
        Due.act(y, 0, 1, Due.TRY, 9, 2);
        Due.act(y, 0, 1, Due.TRY, 9, 0);
        Due.act(y, 0, 1, Due.THROW, 0);
        Due.act(y, 0, 1, Due.LOG, 1);
        Due.act(y, 0, 1, Due.THROW, 0);
        Due.due("what the farther one cut cuts", y.run(0, 1), 0);
        Due.dueEvents("what the farther one cut cuts", y, 0, 0, 1, 0, 3, 1);
        ClassStarts z = Due.classes(1);
        Due.act(z, 0, 1, Due.TRY, 1, 1);
        Due.act(z, 0, 1, Due.TRY, 3, 0);
        Due.act(z, 0, 1, Due.THROW, 0);
        Due.due("nothing is left to guard", z.run(0, 1), 0);
    }

    private static void guardedBy() {
        for (int b : Due.WILD) {
            ClassStarts x = Due.classes(1);
            Due.due("a TRY by " + b, x.act(0, 1, Due.TRY, 1, b, 0), b >= -1 && b <= 9 ? 1 : Due.OUTSIDE);
        }
    }

    /** METHOD 1 of 0: a TRY, one ACT that throws this, and a LOG. */
    private static ClassStarts guarded(int by, int thrown) {
        ClassStarts x = Due.classes(2);
        Due.act(x, 0, 1, Due.TRY, 1, by);
        switch (thrown) {
            case 3: Due.act(x, 0, 1, Due.DIV, 0, 0, 0); break;
            case 4: Due.act(x, 0, 1, Due.IN, 0, 0); break;
            case 5: Due.act(x, 0, 1, Due.OUT, 0, 0); Due.act(x, 0, 0, Due.ROW, 0); break;
            case 6: Due.act(x, 0, 1, Due.ROW, 0); Due.act(x, 0, 0, Due.SET, 0, -1); break;
            case 7: Due.act(x, 0, 1, Due.MAKE, 1); Due.act(x, 1, 0, Due.THROW, 2); break;
            case 8: Due.act(x, 0, 1, Due.MAKE, 1); Due.act(x, 1, 0, Due.THROW, 2); x.run(1, 1); break;
            case 9: Due.act(x, 0, 1, Due.CALL, 0, 2); Due.act(x, 0, 2, Due.CALL, 0, 2); break;
            default: Due.act(x, 0, 1, Due.THROW, thrown); break;
        }
        Due.act(x, 0, 1, Due.LOG, 77);
        return x;
    }

    private static void dueCaught(int by, int thrown, boolean caught) {
        ClassStarts x = guarded(by, thrown);
        String name = thrown + " by " + by;
        Due.due(name, x.run(0, 1), caught ? Due.NONE : thrown);
        Due.due(name + ": goes on", x.event(x.count(0) - 1, 0) == 3 ? 1 : 0, caught ? 1 : 0);
        Due.due(name + ": throws", x.count(3), thrown == 7 ? 2 : 1);
        Due.due(name + ": cause()", x.cause(), thrown == 7 && !caught ? 2 : Due.NONE);
    }

    private static void throwOfB() {
        for (int by = 0; by <= 9; by++) {
            for (int thrown = 0; thrown <= 9; thrown++) {
                dueCaught(by, thrown, by == thrown);
            }
        }
    }

    private static void anyButTen() {
        for (int thrown = 0; thrown <= 9; thrown++) {
            dueCaught(Due.NONE, thrown, true);
        }
        ClassStarts x = Due.busy(8, 10);
        Due.act(x, 1, 1, Due.TRY, 9, Due.NONE);
        Due.act(x, 1, 1, Due.CALL, 0, 1);
        Due.due("10 by NONE", x.run(1, 1), 10);
    }

    private static void arisesInThem() {
        ClassStarts ahead = Due.classes(1);
        Due.act(ahead, 0, 1, Due.THROW, 0);
        Due.act(ahead, 0, 1, Due.TRY, 9, 0);
        Due.act(ahead, 0, 1, Due.LOG, 1);
        Due.due("ahead of them", ahead.run(0, 1), 0);
        ClassStarts behind = Due.classes(1);
        Due.act(behind, 0, 1, Due.TRY, 1, 0);
        Due.act(behind, 0, 1, Due.LOG, 1);
        Due.act(behind, 0, 1, Due.THROW, 0);
        Due.due("behind them", behind.run(0, 1), 0);
        ClassStarts x = Due.kinds("CPC");
        Due.act(x, 2, 1, Due.TRY, 1, 1);
        Due.act(x, 2, 1, Due.CALL, 2, 2);
        Due.act(x, 2, 2, Due.CALL, 2, 3);
        Due.act(x, 2, 3, Due.THROW, 1);
        Due.due("in METHODS that they CALL", x.run(2, 1), Due.NONE);
        ClassStarts y = Due.kinds("CPC");
        Due.act(y, 2, 1, Due.TRY, 1, 7);
        Due.act(y, 2, 1, Due.CALL, 1, 1);
        Due.act(y, 0, 0, Due.THROW, 1);
        Due.due("in STARTS ahead of them", y.run(2, 1), Due.NONE);
        Due.due("state(1)", y.state(1), Due.FAILED);
        ClassStarts z = Due.classes(1);
        Due.act(z, 0, 0, Due.THROW, 0);
        Due.act(z, 0, 1, Due.TRY, 9, 7);
        Due.due("in the START ahead of the METHOD", z.run(0, 1), 7);
    }

    private static void notCaughtWithin() {
        ClassStarts x = Due.classes(1);
        Due.act(x, 0, 1, Due.TRY, 4, Due.NONE);
        Due.act(x, 0, 1, Due.TRY, 1, 2);
        Due.act(x, 0, 1, Due.THROW, 2);
        Due.logs(x, 0, 1, 1, 3);
        Due.due("caught by the inner one", x.run(0, 1), Due.NONE);
        Due.due("LOGS", logged(x), bits(1, 3));
        ClassStarts y = Due.classes(1);
        Due.act(y, 0, 1, Due.TRY, 5, 1);
        Due.act(y, 0, 1, Due.TRY, 2, 0);
        Due.act(y, 0, 1, Due.THROW, 1);
        Due.logs(y, 0, 1, 1, 4);
        Due.due("not caught by the inner one", y.run(0, 1), Due.NONE);
        Due.due("LOGS", logged(y), bits(4, 4));
        ClassStarts z = Due.classes(1);
        Due.act(z, 0, 1, Due.TRY, 2, Due.NONE);
        Due.act(z, 0, 1, Due.CALL, 0, 2);
        Due.logs(z, 0, 1, 1, 1);
        Due.act(z, 0, 2, Due.TRY, 1, Due.NONE);
        Due.act(z, 0, 2, Due.THROW, 2);
        Due.logs(z, 0, 2, 2, 2);
        Due.due("caught in a METHOD that is CALLED", z.run(0, 1), Due.NONE);
        Due.due("LOGS", logged(z), bits(1, 2));
        ClassStarts same = Due.classes(1);
        Due.act(same, 0, 1, Due.TRY, 6, 0);
        Due.act(same, 0, 1, Due.TRY, 1, 0);
        Due.act(same, 0, 1, Due.THROW, 0);
        Due.act(same, 0, 1, Due.LOG, 1);
        Due.act(same, 0, 1, Due.THROW, 0);
        Due.logs(same, 0, 1, 2, 4);
        Due.due("two of the same number", same.run(0, 1), Due.NONE);
        Due.due("LOGS", logged(same), bits(1, 1) | bits(4, 4));
        Due.due("throws", same.count(3), 2);
    }

    private static void endsThem() {
        ClassStarts x = Due.classes(1);
        Due.act(x, 0, 1, Due.TRY, 4, 0);
        Due.act(x, 0, 1, Due.SET, 0, 5);
        Due.act(x, 0, 1, Due.CALL, 0, 2);
        Due.act(x, 0, 1, Due.SET, 0, 6);
        Due.act(x, 0, 1, Due.SET, 1, 7);
        Due.act(x, 0, 2, Due.SET, 2, 8);
        Due.act(x, 0, 2, Due.THROW, 0);
        Due.act(x, 0, 2, Due.SET, 3, 9);
        Due.due("run(0, 1)", x.run(0, 1), Due.NONE);
        Due.due("ACTS", x.count(2), 5);
        Due.due("what they did before stays", x.field(0, 0), 5);
        Due.due("nothing more of them is worked", x.field(0, 1), 0);
        Due.due("what the METHOD did stays", x.field(0, 2), 8);
        Due.due("nothing more of it is worked", x.field(0, 3), 0);
    }

    private static void goesOnBehind() {
        ClassStarts x = Due.classes(1);
        Due.act(x, 0, 1, Due.TRY, 2, 0);
        Due.act(x, 0, 1, Due.THROW, 0);
        Due.act(x, 0, 1, Due.LOG, 1);
        Due.act(x, 0, 1, Due.TRY, 1, 1);
        Due.act(x, 0, 1, Due.THROW, 1);
        Due.act(x, 0, 1, Due.LOG, 2);
        Due.act(x, 0, 1, Due.THROW, 0);
        Due.act(x, 0, 1, Due.LOG, 3);
        Due.due("one TRY after the other, then none", x.run(0, 1), 0);
        Due.due("LOGS", logged(x), bits(2, 2));
        Due.due("throws", x.count(3), 3);
        ClassStarts y = Due.classes(1);
        Due.act(y, 0, 0, Due.TRY, 2, 1);
        Due.act(y, 0, 0, Due.THROW, 1);
        Due.act(y, 0, 0, Due.LOG, 1);
        Due.due("nothing is behind them", y.run(0, 1), Due.NONE);
        Due.dueEvents("the START ends", y, 0, 0, 1, 0);
        ClassStarts z = Due.classes(1);
        Due.act(z, 0, 1, Due.TRY, 3, 0);
        Due.logs(z, 0, 1, 1, 5);
        Due.due("nothing is thrown", z.run(0, 1), Due.NONE);
        Due.due("LOGS", logged(z), bits(1, 5));
        Due.due("ACTS", z.count(2), 6);
    }
}
