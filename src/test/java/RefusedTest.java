import java.util.ArrayList;
import java.util.List;

/** Refused calls: that nothing changes, which answer comes first; and the 512 calls of an object. */
public final class RefusedTest {
    /** Of the object that most of these tests use: two FACES, a CLASS, and one whose PARENT that is. */
    private static final int FACE = 0, LATER_FACE = 1, CLASS = 2, CHILD = 3, KINDS = 4;
    private static final int STEPS = 8;

    public static void main(String[] args) {
        hold();
        Due.end();
    }

    static void hold() {
        Sentence.holds(Sentence.REFUSED, "Refused, and nothing changes:", RefusedTest::nothingChanges);
        Sentence.holds(Sentence.REFUSED, "Refused, and nothing changes:", RefusedTest::nothingChangesWhenFull);
        Sentence.holds(Sentence.REFUSED, "UNKNOWN (no such thing, ACT),", RefusedTest::noSuchThing);
        Sentence.holds(Sentence.REFUSED, "OUTSIDE (a number out of its bounds),", RefusedTest::outOfBounds);
        Sentence.holds(Sentence.REFUSED, "STATE (as told),", RefusedTest::stateAsTold);
        Sentence.holds(Sentence.REFUSED, "ROOM;", RefusedTest::room);
        Sentence.holds(Sentence.REFUSED, "the first that fits.", RefusedTest::firstOfMade);
        Sentence.holds(Sentence.REFUSED, "the first that fits.", RefusedTest::firstOfBears);
        Sentence.holds(Sentence.REFUSED, "the first that fits.", RefusedTest::firstOfConstant);
        Sentence.holds(Sentence.REFUSED, "the first that fits.", RefusedTest::firstOfAct);
        Sentence.holds(Sentence.REFUSED, "the first that fits.", RefusedTest::firstOfRunAndMay);
        Sentence.holds(Sentence.HEAD, "An object is used for at most 512 calls after it has been made;",
            RefusedTest::allCallsOfAnObject);
        Sentence.holds(Sentence.HEAD, "what later calls answer is free.", RefusedTest::laterCallsEnd);
    }

    private static ClassStarts four() {
        return Due.kinds("FFCP");
    }

    /** What can be asked of an object of so many KINDS, in less than 300 calls. */
    private static List<Integer> told(ClassStarts x, int kinds) {
        List<Integer> all = new ArrayList<>();
        all.add(x.cause());
        for (int what = 0; what < 4; what++) {
            all.add(x.count(what));
        }
        for (int i = 0; i <= x.count(0); i++) {
            all.add(x.event(i, 0));
            all.add(x.event(i, 1));
        }
        for (int kind = 0; kind < kinds + 1; kind++) {
            all.add(x.state(kind));
            all.add(x.row(kind));
            all.add(x.item(kind, 0));
            for (int f = 0; f < 4; f++) {
                all.add(x.field(kind, f));
                all.add(x.may(kind, f));
            }
            for (int other = 0; other < kind; other++) {
                all.add(x.ahead(kind, other));
            }
        }
        return all;
    }

    /** Calls that are refused in every state of the object of four, if no more are made. */
    private static int[] alwaysRefused(ClassStarts x) {
        return new int[] {x.made(KINDS), x.made(-2), x.made(FACE), x.made(LATER_FACE), x.bears(CLASS, KINDS),
            x.bears(KINDS, FACE), x.bears(CLASS, CLASS), x.bears(CHILD, CLASS), x.bears(FACE, LATER_FACE),
            x.bears(FACE, FACE), x.constant(KINDS, 0, 9), x.constant(CLASS, 4, 9), x.constant(CLASS, -1, 9),
            x.act(KINDS, 1, Due.LOG, 1, 0, 0), x.act(CLASS, 4, Due.LOG, 1, 0, 0), x.act(CLASS, -1, Due.LOG, 1, 0, 0),
            x.act(CLASS, 1, 13, 0, 0, 0), x.act(CLASS, 1, -1, 0, 0, 0), x.act(CLASS, 1, Due.SET, 4, 0, 0),
            x.act(CLASS, 1, Due.ADD, 0, KINDS, 0), x.act(CLASS, 1, Due.PUT, 0, CLASS, 4),
            x.act(CLASS, 1, Due.DIV, -1, CLASS, 0), x.act(CLASS, 1, Due.ROW, 4, 0, 0),
            x.act(CLASS, 1, Due.IN, 0, 4, 0), x.act(CLASS, 1, Due.OUT, 4, 0, 0),
            x.act(CLASS, 1, Due.CALL, KINDS, 1, 0), x.act(CLASS, 1, Due.CALL, CLASS, 0, 0),
            x.act(CLASS, 1, Due.MAKE, FACE, 0, 0), x.act(CLASS, 1, Due.THROW, 3, 0, 0),
            x.act(CLASS, 1, Due.TRY, 0, 0, 0), x.act(CLASS, 1, Due.TRY, 1, 10, 0), x.run(KINDS, 1), x.run(CLASS, 0),
            x.run(CLASS, 4), x.count(4), x.count(-1), x.state(KINDS), x.row(KINDS), x.may(KINDS, 0),
            x.may(CLASS, 4), x.ahead(CLASS, KINDS), x.ahead(KINDS, CLASS)};
    }

    /** Calls that are refused when CLASS and CHILD are DONE or FAILED. */
    private static int[] refusedWhenStarted(ClassStarts x) {
        return new int[] {x.bears(CLASS, LATER_FACE), x.bears(CHILD, FACE), x.constant(CLASS, 0, 9),
            x.constant(CHILD, 3, 9), x.act(CLASS, 1, Due.LOG, 9, 0, 0), x.act(CHILD, 0, Due.TRY, 9, -1, 0)};
    }

    private static void dueRefused(String when, int... answers) {
        for (int i = 0; i < answers.length; i++) {
            Due.due(when + ": call " + i + " (" + answers[i] + ") is refused", answers[i] <= Due.UNKNOWN ? 1 : 0, 1);
        }
    }

    private static void refuse(ClassStarts x) {
        dueRefused("always", alwaysRefused(x));
        if (x.state(CLASS) != Due.NOT && x.state(CHILD) != Due.NOT) {
            dueRefused("when started", refusedWhenStarted(x));
        }
    }

    /** An object's life of so many steps, with refused calls ahead of those from .. on. */
    private static ClassStarts life(int steps, int refusedFrom) {
        ClassStarts x = four();
        for (int step = 0; step < steps; step++) {
            if (step >= refusedFrom) {
                refuse(x);
            }
            liveOn(x, step);
        }
        return x;
    }

    private static int liveOn(ClassStarts x, int step) {
        switch (step) {
            case 0: return x.act(CLASS, 1, Due.LOG, 5, 0, 0) + 10 * x.act(CLASS, 1, Due.SET, 0, 6, 0);
            case 1: return x.bears(CLASS, FACE) + 10 * x.constant(CLASS, 1, 8);
            case 2: return x.act(CLASS, 0, Due.ROW, 1, 0, 0) + 10 * x.act(CHILD, 0, Due.CALL, CLASS, 1, 0);
            case 3: return x.run(CHILD, 1);
            case 4: return x.again();
            case 5: return x.act(CHILD, 0, Due.THROW, 2, 0, 0) + 10 * x.act(CLASS, 1, Due.DROP, 0, 0, 0);
            case 6: return x.run(CHILD, 1);
            default: return x.run(CLASS, 1);
        }
    }

    private static void dueTheSame(String when, ClassStarts refused, ClassStarts other, int kinds) {
        Due.due(when + ": told as without them", told(refused, kinds).equals(told(other, kinds)) ? 1 : 0, 1);
    }

    private static void nothingChanges() {
        for (int steps = 0; steps <= STEPS; steps++) {
            ClassStarts x = life(steps, STEPS);
            refuse(x);
            dueTheSame("at once behind step " + steps, x, life(steps, STEPS), KINDS);
            dueTheSame("ahead of each of the last 4 of " + steps, life(steps, steps - 4), life(steps, STEPS), KINDS);
        }
    }

    private static void nothingChangesWhenFull() {
        ClassStarts kinds = Due.classes(12);
        dueRefused("twelve KINDS", kinds.made(Due.NONE), kinds.made(11), kinds.face(true), kinds.face(false),
            kinds.made(12));
        dueTheSame("twelve KINDS", kinds, Due.classes(12), 12);
        ClassStarts faces = Due.kinds("FFFFC");
        ClassStarts threeFaces = Due.kinds("FFFFC");
        for (int i = 0; i < 3; i++) {
            faces.bears(4, i);
            threeFaces.bears(4, i);
        }
        dueRefused("three FACES", faces.bears(4, 3), faces.bears(4, 0));
        faces.run(4, 1);
        threeFaces.run(4, 1);
        dueTheSame("three FACES", faces, threeFaces, 5);
        ClassStarts acts = Due.classes(1);
        Due.logs(acts, 0, 1, 1, 10);
        dueRefused("ten ACTS", acts.act(0, 1, Due.LOG, 11, 0, 0));
        Due.due("run(0, 1)", acts.run(0, 1), Due.NONE);
        Due.due("ACTS", acts.count(2), 10);
        ClassStarts constant = Due.classes(1);
        constant.constant(0, 0, 7);
        dueRefused("a CONSTANT", constant.constant(0, 0, 8));
        Due.due("field(0, 0)", constant.field(0, 0), 7);
    }

    private static void noSuchThing() {
        for (int n : Due.WILD) {
            if (n >= 0 && n < KINDS) {
                continue;
            }
            ClassStarts x = four();
            Due.due("made(" + n + ")", x.made(n), n == Due.NONE ? KINDS : Due.UNKNOWN);
            x = four();
            int[] answers = {x.bears(n, FACE), x.bears(CLASS, n), x.constant(n, 0, 0), x.act(n, 0, Due.LOG, 0, 0, 0),
                x.act(CLASS, 0, Due.ADD, 0, n, 0), x.act(CLASS, 0, Due.PUT, 0, n, 0),
                x.act(CLASS, 0, Due.DIV, 0, n, 0), x.act(CLASS, 0, Due.CALL, n, 1, 0),
                x.act(CLASS, 0, Due.MAKE, n, 0, 0), x.run(n, 1), x.state(n), x.row(n), x.may(n, 0), x.ahead(n, CLASS),
                x.ahead(CLASS, n)};
            for (int i = 0; i < answers.length; i++) {
                Due.due("answer " + i + " of " + n, answers[i], Due.UNKNOWN);
            }
        }
    }

    private static void outOfBounds() {
        ClassStarts x = four();
        int[] answers = {x.constant(CLASS, -1, 0), x.constant(CLASS, 4, 0), x.act(CLASS, -1, Due.LOG, 0, 0, 0),
            x.act(CLASS, 4, Due.LOG, 0, 0, 0), x.act(CLASS, 0, -1, 0, 0, 0), x.act(CLASS, 0, 13, 0, 0, 0),
            x.act(CLASS, 0, Due.SET, -1, 0, 0), x.act(CLASS, 0, Due.SET, 4, 0, 0), x.run(CLASS, 0), x.run(CLASS, 4),
            x.count(-1), x.count(4), x.may(CLASS, -1), x.may(CLASS, 4)};
        for (int i = 0; i < answers.length; i++) {
            Due.due("answer " + i, answers[i], Due.OUTSIDE);
        }
        int[] within = {x.constant(CLASS, 0, 0), x.constant(CLASS, 3, 0), x.act(CLASS, 0, Due.LOG, 0, 0, 0),
            x.act(CLASS, 3, Due.DROP, 0, 0, 0), x.act(CLASS, 1, Due.SET, 0, 0, 0), x.act(CLASS, 2, Due.SET, 3, 0, 0)};
        for (int i = 0; i < within.length; i++) {
            Due.due("at the bound, answer " + i, within[i], 1);
        }
        Due.due("run(CLASS, 1)", x.run(CLASS, 1), Due.NONE);
        Due.due("run(CLASS, 3)", x.run(CLASS, 3), Due.NONE);
        Due.due("count(0)", x.count(0), 0);
        Due.due("count(3)", x.count(3), 0);
        Due.due("may(CLASS, 0)", x.may(CLASS, 0), 1 << CLASS);
        Due.due("may(CLASS, 3)", x.may(CLASS, 3), 1 << CLASS);
    }

    private static void stateAsTold() {
        ClassStarts x = four();
        Due.due("made of a FACE", x.made(FACE), Due.STATE);
        Due.due("bears no FACE", x.bears(CHILD, CLASS), Due.STATE);
        Due.due("bears one made later", x.bears(FACE, LATER_FACE), Due.STATE);
        Due.due("bears", x.bears(CLASS, FACE), 1);
        Due.due("bears one that is there", x.bears(CLASS, FACE), Due.STATE);
        Due.due("constant", x.constant(CLASS, 0, 0), 1);
        Due.due("constant that is already", x.constant(CLASS, 0, 0), Due.STATE);
        Due.due("MAKE of a FACE", x.act(CLASS, 0, Due.MAKE, FACE, 0, 0), Due.STATE);
        Due.due("run", x.run(CLASS, 1), Due.NONE);
        Due.due("bears, DONE", x.bears(CLASS, LATER_FACE), Due.STATE);
        Due.due("constant, DONE", x.constant(CLASS, 1, 0), Due.STATE);
        Due.due("act, DONE", x.act(CLASS, 0, Due.LOG, 0, 0, 0), Due.STATE);
        Due.due("made of one that is DONE is none such", x.made(CLASS), KINDS);
    }

    private static void room() {
        ClassStarts x = Due.kinds("FFFFCCCCCCCC");
        Due.due("made", x.made(Due.NONE), Due.ROOM);
        Due.due("face", x.face(true), Due.ROOM);
        for (int i = 0; i < 3; i++) {
            Due.due("bears", x.bears(4, i), i + 1);
        }
        Due.due("bears", x.bears(4, 3), Due.ROOM);
        Due.logs(x, 4, 0, 1, 10);
        Due.due("act", x.act(4, 0, Due.LOG, 11, 0, 0), Due.ROOM);
        Due.due("act of another METHOD", x.act(4, 1, Due.LOG, 11, 0, 0), 1);
    }

    private static void firstOfMade() {
        ClassStarts x = Due.kinds("FCCCCCCCCCCC");
        Due.due("UNKNOWN ahead of ROOM", x.made(12), Due.UNKNOWN);
        Due.due("UNKNOWN ahead of ROOM", x.made(-2), Due.UNKNOWN);
        Due.due("STATE ahead of ROOM", x.made(0), Due.STATE);
        Due.due("ROOM", x.made(1), Due.ROOM);
    }

    private static void firstOfBears() {
        ClassStarts x = Due.kinds("FFFFCF");
        for (int i = 0; i < 3; i++) {
            x.bears(4, i);
            x.bears(5, i);
        }
        Due.due("UNKNOWN ahead of ROOM", x.bears(4, 6), Due.UNKNOWN);
        Due.due("STATE, no FACE, ahead of ROOM", x.bears(5, 4), Due.STATE);
        Due.due("STATE, made later, ahead of ROOM", x.bears(4, 5), Due.STATE);
        Due.due("STATE, itself, ahead of ROOM", x.bears(5, 5), Due.STATE);
        Due.due("STATE, there, ahead of ROOM", x.bears(4, 2), Due.STATE);
        Due.due("ROOM", x.bears(4, 3), Due.ROOM);
        Due.due("UNKNOWN of both", x.bears(7, 6), Due.UNKNOWN);
        Due.due("UNKNOWN X ahead of no FACE", x.bears(6, 4), Due.UNKNOWN);
        x.run(4, 1);
        Due.due("STATE, DONE, ahead of ROOM", x.bears(4, 3), Due.STATE);
        Due.due("UNKNOWN ahead of DONE", x.bears(4, 6), Due.UNKNOWN);
    }

    private static void firstOfConstant() {
        ClassStarts x = Due.classes(1);
        Due.due("UNKNOWN ahead of OUTSIDE", x.constant(1, 4, 0), Due.UNKNOWN);
        Due.due("UNKNOWN ahead of OUTSIDE", x.constant(-1, -1, 0), Due.UNKNOWN);
        x.run(0, 1);
        Due.due("OUTSIDE ahead of STATE", x.constant(0, 4, 0), Due.OUTSIDE);
        Due.due("OUTSIDE ahead of STATE", x.constant(0, -1, 0), Due.OUTSIDE);
        Due.due("STATE", x.constant(0, 3, 0), Due.STATE);
    }

    /** What act() answers when so much else is wrong too: its METHOD has room or not, X is NOT or DONE. */
    private static void firstOfAct() {
        for (int times = 0; times < 4; times++) {
            ClassStarts x = four();
            if (times % 2 == 1) {
                Due.logs(x, CLASS, 1, 1, 10);
            }
            if (times >= 2) {
                x.run(CLASS, 1);
            }
            Due.due("UNKNOWN X ahead of all", x.act(KINDS, 4, 13, 9, 9, 9), Due.UNKNOWN);
            for (int sort : new int[] {Due.ADD, Due.PUT, Due.DIV}) {
                Due.due("UNKNOWN Z ahead of METHOD", x.act(CLASS, 4, sort, 0, KINDS, 0), Due.UNKNOWN);
                Due.due("UNKNOWN Z ahead of a", x.act(CLASS, 1, sort, 4, KINDS, 0), Due.UNKNOWN);
                Due.due("UNKNOWN Z ahead of c", x.act(CLASS, 1, sort, 0, -1, 4), Due.UNKNOWN);
                Due.due("OUTSIDE a ahead of STATE and ROOM", x.act(CLASS, 1, sort, 4, CLASS, 0), Due.OUTSIDE);
                Due.due("OUTSIDE c ahead of STATE and ROOM", x.act(CLASS, 1, sort, 0, CLASS, 4), Due.OUTSIDE);
            }
            Due.due("UNKNOWN of a CALL ahead of METHOD", x.act(CLASS, -1, Due.CALL, KINDS, 1, 0), Due.UNKNOWN);
            Due.due("UNKNOWN of a CALL ahead of b", x.act(CLASS, 1, Due.CALL, KINDS, 0, 0), Due.UNKNOWN);
            Due.due("UNKNOWN of a MAKE ahead of METHOD", x.act(CLASS, 4, Due.MAKE, KINDS, 0, 0), Due.UNKNOWN);
            Due.due("OUTSIDE METHOD ahead of MAKE of a FACE", x.act(CLASS, 4, Due.MAKE, FACE, 0, 0), Due.OUTSIDE);
            Due.due("OUTSIDE METHOD ahead of STATE and ROOM", x.act(CLASS, 4, Due.LOG, 0, 0, 0), Due.OUTSIDE);
            Due.due("OUTSIDE sort ahead of STATE and ROOM", x.act(CLASS, 1, 13, 0, 0, 0), Due.OUTSIDE);
            Due.due("OUTSIDE b ahead of STATE and ROOM", x.act(CLASS, 1, Due.CALL, CLASS, 0, 0), Due.OUTSIDE);
            Due.due("STATE, MAKE of a FACE, ahead of ROOM", x.act(CLASS, 1, Due.MAKE, FACE, 0, 0), Due.STATE);
            Due.due("STATE, DONE, ahead of ROOM", x.act(CLASS, 1, Due.LOG, 0, 0, 0),
                times >= 2 ? Due.STATE : times == 1 ? Due.ROOM : 1);
        }
    }

    private static void firstOfRunAndMay() {
        ClassStarts x = Due.classes(1);
        for (int n : new int[] {-1, 4, Due.MIN, Due.MAX}) {
            Due.due("run: UNKNOWN ahead of OUTSIDE", x.run(1, n), Due.UNKNOWN);
            Due.due("may: UNKNOWN ahead of OUTSIDE", x.may(1, n), Due.UNKNOWN);
            Due.due("run: OUTSIDE", x.run(0, n), Due.OUTSIDE);
            Due.due("may: OUTSIDE", x.may(0, n), Due.OUTSIDE);
        }
        Due.due("run: UNKNOWN ahead of METHOD 0", x.run(1, 0), Due.UNKNOWN);
    }

    /** 12 KINDS and 480 ACTS, as full as an object can be; with what is asked then, 512 calls. */
    private static ClassStarts full() {
        ClassStarts x = Due.classes(12);
        for (int kind = 0; kind < 12; kind++) {
            for (int method = 0; method < 4; method++) {
                for (int i = 0; i < 10; i++) {
                    Due.act(x, kind, method, i == 4 ? Due.MAKE : Due.LOG, i == 4 ? (kind + 1) % 12 : i);
                }
            }
        }
        return x;
    }

    private static void allCallsOfAnObject() {
        ClassStarts x = full();
        Due.due("call 493: one KIND more", x.made(Due.NONE), Due.ROOM);
        Due.due("call 494: one ACT more", x.act(11, 3, Due.LOG, 10, 0, 0), Due.ROOM);
        Due.due("call 495: may", x.may(0, 1), 4095);
        Due.due("call 496: run", x.run(6, 1), 9);
        Due.due("call 497: EVENTS", x.count(0), 9 + 32 + 9);
        Due.due("call 498: ACTS", x.count(2), 40);
        Due.due("call 499: throws", x.count(3), 1);
        Due.due("call 500: the last EVENT", x.event(49, 0), 2);
        Due.due("call 501: of X", x.event(49, 1), 6);
        Due.due("call 502: none behind it", x.event(50, 0), 0);
        Due.due("call 503: state", x.state(2), Due.FAILED);
        Due.due("call 504: state", x.state(3), Due.NOT);
        Due.due("call 505: again", x.again(), 9);
        Due.due("call 506: state", x.state(2), Due.NOT);
        Due.due("call 507: run", x.run(3, 2), 9);
        Due.due("call 508: run", x.run(4, 2), 8);
        Due.due("call 509: run", x.run(0, 2), 8);
        Due.due("call 510: ahead", x.ahead(11, 0), 0);
        Due.due("call 511: again", x.again(), 12);
        Due.due("call 512: constant", x.constant(11, 3, 5), 1);
    }

    private static void laterCallsEnd() {
        ClassStarts x = full();
        for (int i = 0; i < 2000; i++) {
            x.run(i % 14, i % 5);
            x.again();
            x.made(i % 13);
            x.event(i, 1);
        }
    }
}
