/** Promises 7, 9, 12, 13, 14: what each ACT does, and the THROWS that they make. */
public final class WorkTest {
    public static void main(String[] args) {
        runIsRefused();
        setAddPut();
        sumsWrap();
        div();
        rows();
        rowOfMany();
        rowsFail();
        constantsStay();
        constantsAreNotWanted();
        constantsStillThrow();
        halfSeen();
        halfSeenCountsWhenRead();
        wantedAheadOfTheAct();
        Due.end();
    }

    private static void runIsRefused() {
        ClassStarts x = Due.classes(1);
        Due.act(x, 0, 1, Due.LOG, 5);
        Due.due("run(0, 1)", x.run(0, 1), Due.NONE);
        Due.due("run(0, 0)", x.run(0, 0), Due.OUTSIDE);
        Due.due("run(0, 4)", x.run(0, 4), Due.OUTSIDE);
        Due.due("run(0, -1)", x.run(0, -1), Due.OUTSIDE);
        Due.due("run(1, 1)", x.run(1, 1), Due.UNKNOWN);
        Due.due("run(1, 9)", x.run(1, 9), Due.UNKNOWN);
        Due.due("run(-1, 1)", x.run(-1, 1), Due.UNKNOWN);
        Due.dueEvents("refused runs change nothing", x, 0, 0, 1, 0, 3, 5);
        Due.due("run(0, 3), no ACTS", x.run(0, 3), Due.NONE);
        Due.dueEvents("EVENTS are of the latest run", x);
        Due.due("ACTS are of the latest run", x.count(2), 0);
    }

    private static void setAddPut() {
        ClassStarts x = Due.classes(2);
        Due.act(x, 1, 0, Due.SET, 2, 30);
        Due.act(x, 0, 1, Due.SET, 0, -7);
        Due.act(x, 0, 1, Due.ADD, 0, 1, 2);
        Due.act(x, 0, 1, Due.SET, 1, 5);
        Due.act(x, 0, 1, Due.ADD, 1, 0, 0);
        Due.act(x, 0, 1, Due.PUT, 1, 1, 3);
        Due.act(x, 0, 1, Due.PUT, 1, 0, 2);
        Due.act(x, 0, 1, Due.ADD, 2, 0, 2);
        Due.due("run", x.run(0, 1), Due.NONE);
        Due.due("field(0, 0)", x.field(0, 0), 23);
        Due.due("field(0, 1)", x.field(0, 1), 28);
        Due.due("field(0, 2)", x.field(0, 2), 56);
        Due.due("field(1, 2)", x.field(1, 2), 30);
        Due.due("field(1, 3)", x.field(1, 3), 28);
        Due.due("ACTS", x.count(2), 8);
        x.run(0, 1);
        Due.due("field(0, 2) after a run more", x.field(0, 2), 56);
    }

    private static void sumsWrap() {
        ClassStarts x = Due.classes(1);
        Due.act(x, 0, 1, Due.SET, 0, Integer.MAX_VALUE);
        Due.act(x, 0, 1, Due.SET, 1, 1);
        Due.act(x, 0, 1, Due.ADD, 0, 0, 1);
        Due.due("run", x.run(0, 1), Due.NONE);
        Due.due("MAX and 1", x.field(0, 0), Integer.MIN_VALUE);
    }

    private static int divided(int by, int value) {
        ClassStarts x = Due.classes(2);
        Due.act(x, 1, 0, Due.SET, 3, by);
        Due.act(x, 0, 1, Due.SET, 0, value);
        Due.act(x, 0, 1, Due.DIV, 0, 1, 3);
        Due.due("run", x.run(0, 1), by == 0 ? 3 : Due.NONE);
        return x.field(0, 0);
    }

    private static void div() {
        Due.due("7 by 2", divided(2, 7), 3);
        Due.due("-7 by 2", divided(2, -7), -3);
        Due.due("7 by -2", divided(-2, 7), -3);
        Due.due("-7 by -2", divided(-2, -7), 3);
        Due.due("7 by 0", divided(0, 7), 7);
        Due.due("MIN by -1", divided(-1, Integer.MIN_VALUE), Integer.MIN_VALUE);
    }

    private static void rows() {
        ClassStarts x = Due.classes(1);
        Due.act(x, 0, 0, Due.SET, 0, 3);
        Due.act(x, 0, 0, Due.ROW, 0);
        Due.act(x, 0, 1, Due.SET, 0, 2);
        Due.act(x, 0, 1, Due.SET, 1, 44);
        Due.act(x, 0, 1, Due.IN, 0, 1);
        Due.act(x, 0, 1, Due.OUT, 3, 0);
        Due.act(x, 0, 2, Due.DROP, 0);
        Due.act(x, 0, 3, Due.ROW, 0);
        Due.due("row(0) at first", x.row(0), Due.NONE);
        Due.due("run(0, 1)", x.run(0, 1), Due.NONE);
        Due.due("row(0)", x.row(0), 3);
        Due.due("item(0, 2)", x.item(0, 2), 44);
        Due.due("item(0, 1)", x.item(0, 1), 0);
        Due.due("item(0, 3)", x.item(0, 3), 0);
        Due.due("item(0, -1)", x.item(0, -1), 0);
        Due.due("item(1, 2)", x.item(1, 2), 0);
        Due.due("row(1)", x.row(1), Due.UNKNOWN);
        Due.due("row(-1)", x.row(-1), Due.UNKNOWN);
        Due.due("field(0, 3)", x.field(0, 3), 44);
        Due.due("run(0, 3)", x.run(0, 3), Due.NONE);
        Due.due("row(0), smaller", x.row(0), 2);
        Due.due("item(0, 2), behind it", x.item(0, 2), 0);
        x.run(0, 2);
        Due.due("row(0) dropped", x.row(0), Due.NONE);
        Due.due("item(0, 0) dropped", x.item(0, 0), 0);
        Due.due("a dropped ROW", x.run(0, 1), 4);
        x.run(0, 3);
        Due.due("row(0) made anew", x.row(0), 2);
    }

    private static void rowOfMany() {
        for (int n : Due.WILD) {
            ClassStarts x = Due.classes(1);
            Due.act(x, 0, 1, Due.SET, 0, n);
            Due.act(x, 0, 1, Due.ROW, 0);
            Due.due("a ROW of " + n, x.run(0, 1), n < 0 ? 6 : Due.NONE);
            Due.due("row(0) of " + n, x.row(0), n < 0 ? Due.NONE : Math.min(n, 20));
        }
        ClassStarts x = Due.classes(1);
        Due.act(x, 0, 1, Due.SET, 0, 21);
        Due.act(x, 0, 1, Due.ROW, 0);
        Due.act(x, 0, 1, Due.SET, 1, 19);
        Due.act(x, 0, 1, Due.IN, 1, 0);
        Due.act(x, 0, 2, Due.SET, 1, 20);
        Due.act(x, 0, 2, Due.IN, 1, 0);
        Due.act(x, 0, 3, Due.SET, 0, 20);
        Due.act(x, 0, 3, Due.ROW, 0);
        Due.due("the last item", x.run(0, 1), Due.NONE);
        Due.due("item(0, 19)", x.item(0, 19), 21);
        Due.due("an item behind", x.run(0, 2), 5);
        Due.due("a ROW more", x.run(0, 3), Due.NONE);
        Due.due("all its items are 0", x.item(0, 19), 0);
    }

    private static int rowThrow(int sort, int rowOf, int i) {
        ClassStarts x = Due.classes(1);
        Due.act(x, 0, 1, Due.SET, 0, rowOf);
        if (rowOf != Due.NONE) {
            Due.act(x, 0, 1, Due.ROW, 0);
        }
        Due.act(x, 0, 1, Due.SET, 1, i);
        Due.act(x, 0, 1, sort, sort == Due.IN ? 1 : 2, sort == Due.IN ? 2 : 1);
        return x.run(0, 1);
    }

    private static void rowsFail() {
        for (int sort : new int[] {Due.IN, Due.OUT}) {
            Due.due("no ROW", rowThrow(sort, Due.NONE, 0), 4);
            Due.due("no ROW, and -1", rowThrow(sort, Due.NONE, -1), 4);
            Due.due("a ROW of 0", rowThrow(sort, 0, 0), 5);
            Due.due("item -1", rowThrow(sort, 2, -1), 5);
            Due.due("item MIN", rowThrow(sort, 2, Integer.MIN_VALUE), 5);
            Due.due("item MAX", rowThrow(sort, 2, Integer.MAX_VALUE), 5);
            Due.due("item 2 of 2", rowThrow(sort, 2, 2), 5);
            Due.due("item 1 of 2", rowThrow(sort, 2, 1), Due.NONE);
        }
        ClassStarts x = Due.classes(1);
        Due.act(x, 0, 1, Due.SET, 0, 4);
        Due.act(x, 0, 1, Due.ROW, 0);
        Due.act(x, 0, 1, Due.SET, 0, -1);
        Due.act(x, 0, 1, Due.ROW, 0);
        Due.due("a ROW of -1", x.run(0, 1), 6);
        Due.due("the ROW before stays", x.row(0), 4);
    }

    private static void constantsStay() {
        ClassStarts x = Due.classes(2);
        x.constant(0, 0, 8);
        x.constant(1, 2, 3);
        Due.act(x, 0, 1, Due.SET, 0, 1);
        Due.act(x, 0, 1, Due.ADD, 0, 1, 2);
        Due.act(x, 0, 1, Due.DIV, 0, 1, 2);
        Due.act(x, 0, 1, Due.ROW, 0);
        Due.act(x, 0, 1, Due.OUT, 0, 1);
        Due.act(x, 0, 1, Due.PUT, 0, 1, 2);
        Due.act(x, 0, 1, Due.PUT, 1, 0, 0);
        Due.due("run(0, 1)", x.run(0, 1), Due.NONE);
        Due.due("field(0, 0)", x.field(0, 0), 8);
        Due.due("field(1, 2)", x.field(1, 2), 3);
        Due.due("row(0)", x.row(0), 8);
        Due.due("state(1)", x.state(1), Due.NOT);
    }

    private static void constantsAreNotWanted() {
        ClassStarts x = Due.classes(4);
        for (int z = 1; z < 4; z++) {
            x.constant(z, 0, 5);
            Due.act(x, z, 0, Due.THROW, 1);
        }
        Due.act(x, 0, 1, Due.ADD, 1, 1, 0);
        Due.act(x, 0, 1, Due.DIV, 1, 2, 0);
        Due.act(x, 0, 1, Due.PUT, 1, 3, 0);
        Due.due("only CONSTANTS", x.run(0, 1), Due.NONE);
        Due.due("field(0, 1)", x.field(0, 1), 1);
        Due.dueEvents("only CONSTANTS", x, 0, 0, 1, 0);
        for (int sort : new int[] {Due.ADD, Due.DIV, Due.PUT}) {
            ClassStarts y = Due.classes(2);
            y.constant(1, 0, 5);
            Due.act(y, 1, 0, Due.THROW, 1);
            Due.act(y, 0, 1, sort, 1, 1, 1);
            Due.due("a FIELD beside the CONSTANT one", y.run(0, 1), 7);
            Due.due("its CAUSE", y.cause(), 1);
        }
    }

    private static void constantsStillThrow() {
        ClassStarts x = Due.classes(2);
        x.constant(0, 0, 8);
        x.constant(1, 0, 0);
        Due.act(x, 0, 1, Due.DIV, 0, 1, 0);
        Due.act(x, 0, 2, Due.OUT, 0, 0);
        Due.act(x, 0, 3, Due.ADD, 0, 1, 1);
        Due.due("a CONSTANT one by 0", x.run(0, 1), 3);
        Due.due("a CONSTANT one out of no ROW", x.run(0, 2), 4);
        Due.due("an ADD to a CONSTANT one", x.run(0, 3), Due.NONE);
        Due.due("WANTS all the same", x.state(1), Due.DONE);
    }

    /** 1 is IN WORK while METHOD 1 of 0 is worked. */
    private static int halfSeenBy(int sort, int other, int f) {
        ClassStarts x = Due.classes(2);
        x.constant(1, 3, 2);
        Due.act(x, 1, 0, Due.SET, 0, 6);
        Due.act(x, 1, 0, Due.CALL, 0, 1);
        Due.act(x, 0, 1, Due.SET, 2, 12);
        Due.act(x, 0, 1, sort, 2, other, f);
        Due.due("run(1, 1)", x.run(1, 1), Due.NONE);
        int seen = x.count(1);
        Due.due("run(0, 1)", x.run(0, 1), Due.NONE);
        Due.due("HALF SEEN of one that is DONE", x.count(1), 0);
        return seen;
    }

    private static void halfSeen() {
        Due.due("ADD", halfSeenBy(Due.ADD, 1, 0), 1);
        Due.due("DIV", halfSeenBy(Due.DIV, 1, 0), 1);
        Due.due("PUT", halfSeenBy(Due.PUT, 1, 0), 0);
        Due.due("ADD of a CONSTANT one", halfSeenBy(Due.ADD, 1, 3), 0);
        Due.due("DIV of a CONSTANT one", halfSeenBy(Due.DIV, 1, 3), 0);
        Due.due("ADD of one that is DONE", halfSeenBy(Due.ADD, 0, 2), 0);
        ClassStarts x = Due.classes(1);
        Due.act(x, 0, 0, Due.ADD, 0, 0, 1);
        x.run(0, 1);
        Due.due("ADD of an own one IN WORK", x.count(1), 0);
    }

    private static void halfSeenCountsWhenRead() {
        ClassStarts x = Due.classes(2);
        x.constant(0, 3, 9);
        Due.act(x, 1, 0, Due.CALL, 0, 1);
        Due.act(x, 0, 1, Due.ADD, 3, 1, 1);
        Due.act(x, 0, 1, Due.ADD, 2, 1, 1);
        Due.act(x, 0, 1, Due.DIV, 2, 1, 1);
        Due.due("by a FIELD not set yet", x.run(1, 1), 7);
        Due.due("the CAUSE", x.cause(), 3);
        Due.due("HALF SEEN, that by 0 too", x.count(1), 3);
        Due.due("an ADD of one that FAILED", x.run(0, 1), 8);
        Due.due("is not read", x.count(1), 0);
    }

    private static void wantedAheadOfTheAct() {
        ClassStarts x = Due.classes(2);
        Due.act(x, 1, 0, Due.SET, 0, 40);
        Due.act(x, 1, 0, Due.PUT, 0, 0, 1);
        Due.act(x, 0, 1, Due.SET, 1, 2);
        Due.act(x, 0, 1, Due.ADD, 1, 1, 0);
        Due.due("run(0, 1)", x.run(0, 1), Due.NONE);
        Due.due("the START's PUT comes first", x.field(0, 1), 80);
        ClassStarts y = Due.classes(2);
        Due.act(y, 1, 0, Due.SET, 0, 40);
        Due.act(y, 1, 0, Due.PUT, 0, 0, 1);
        Due.act(y, 0, 1, Due.PUT, 1, 1, 2);
        Due.due("run(0, 1)", y.run(0, 1), Due.NONE);
        Due.due("PUT of what the START left", y.field(1, 2), 40);
    }
}
