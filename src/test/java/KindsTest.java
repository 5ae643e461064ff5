/** Promises 1 to 5, 11 and 12 without a run: new objects, CLASSES, FACES, what they bear, CONSTANT FIELDS. */
public final class KindsTest {
    public static void main(String[] args) {
        newObject();
        made();
        face();
        kindsAreTwelve();
        bears();
        bearsOfOneInState();
        constant();
        Due.end();
    }

    private static void newObject() {
        ClassStarts x = new ClassStarts();
        Due.due("new: state(0)", x.state(0), Due.UNKNOWN);
        Due.due("new: row(0)", x.row(0), Due.UNKNOWN);
        Due.due("new: field(0, 0)", x.field(0, 0), 0);
        Due.due("new: item(0, 0)", x.item(0, 0), 0);
        Due.due("new: run(0, 1)", x.run(0, 1), Due.UNKNOWN);
        Due.due("new: may(0, 0)", x.may(0, 0), Due.UNKNOWN);
        Due.due("new: ahead(0, 0)", x.ahead(0, 0), Due.UNKNOWN);
        Due.due("new: act(0, ..)", x.act(0, 0, 0, 0, 0, 0), Due.UNKNOWN);
        Due.due("new: constant(0, 0, 0)", x.constant(0, 0, 0), Due.UNKNOWN);
        Due.due("new: bears(0, 0)", x.bears(0, 0), Due.UNKNOWN);
        Due.due("new: cause()", x.cause(), Due.NONE);
        Due.due("new: again()", x.again(), 0);
        for (int what = 0; what < 4; what++) {
            Due.due("new: count(" + what + ")", x.count(what), 0);
        }
        Due.dueEvents("new", x);
    }

    private static void made() {
        ClassStarts x = new ClassStarts();
        Due.due("made(NONE)", x.made(-1), 0);
        Due.due("made(0)", x.made(0), 1);
        Due.due("face(true)", x.face(true), 2);
        Due.due("made(2), a FACE", x.made(2), Due.STATE);
        Due.due("made(3), not there yet", x.made(3), Due.UNKNOWN);
        Due.due("made(-2)", x.made(-2), Due.UNKNOWN);
        Due.due("made(MIN)", x.made(Integer.MIN_VALUE), Due.UNKNOWN);
        Due.due("made(MAX)", x.made(Integer.MAX_VALUE), Due.UNKNOWN);
        Due.due("made(1)", x.made(1), 3);
        Due.due("ahead(3, 0)", x.ahead(3, 0), 1);
        Due.due("state(3)", x.state(3), Due.NOT);
        Due.due("row(3)", x.row(3), Due.NONE);
        Due.due("state(4)", x.state(4), Due.UNKNOWN);
        Due.due("run(0, 1)", x.run(0, 1), Due.NONE);
        Due.due("made(0), which is DONE", x.made(0), 4);
    }

    private static void face() {
        ClassStarts x = new ClassStarts();
        Due.due("face(true)", x.face(true), 0);
        Due.due("face(false)", x.face(false), 1);
        Due.due("made(NONE)", x.made(-1), 2);
        Due.due("bears(2, 0)", x.bears(2, 0), 1);
        Due.due("bears(2, 1)", x.bears(2, 1), 2);
        Due.due("ahead(2, 0), with DEFAULTS", x.ahead(2, 0), 1);
        Due.due("ahead(2, 1), without", x.ahead(2, 1), 0);
        Due.due("a FACE runs", x.run(1, 1), Due.NONE);
        Due.due("state(1)", x.state(1), Due.DONE);
    }

    private static void kindsAreTwelve() {
        ClassStarts x = new ClassStarts();
        for (int i = 0; i < 12; i++) {
            Due.due("the KIND " + i, i % 2 == 0 ? x.face(true) : x.made(Due.NONE), i);
        }
        Due.due("the 13th is a FACE", x.face(false), Due.ROOM);
        Due.due("the 13th is a CLASS", x.made(Due.NONE), Due.ROOM);
        Due.due("the 13th has a PARENT", x.made(1), Due.ROOM);
        Due.due("the 13th of an UNKNOWN one", x.made(12), Due.UNKNOWN);
        Due.due("the 13th of a FACE", x.made(0), Due.STATE);
        Due.due("state(11)", x.state(11), Due.NOT);
        Due.due("state(12)", x.state(12), Due.UNKNOWN);
        Due.due("may(11, 0)", x.may(11, 0), 1 << 11);
    }

    private static void bears() {
        ClassStarts x = new ClassStarts();
        x.face(true);
        x.face(false);
        x.face(true);
        x.face(true);
        x.made(Due.NONE);
        x.face(true);
        Due.due("bears(4, 6)", x.bears(4, 6), Due.UNKNOWN);
        Due.due("bears(6, 0)", x.bears(6, 0), Due.UNKNOWN);
        Due.due("bears(-1, 0)", x.bears(-1, 0), Due.UNKNOWN);
        Due.due("bears(4, -1)", x.bears(4, -1), Due.UNKNOWN);
        Due.due("bears(4, 4), no FACE", x.bears(4, 4), Due.STATE);
        Due.due("bears(5, 4), no FACE", x.bears(5, 4), Due.STATE);
        Due.due("bears(4, 5), made later", x.bears(4, 5), Due.STATE);
        Due.due("bears(5, 5), itself", x.bears(5, 5), Due.STATE);
        Due.due("bears(4, 3)", x.bears(4, 3), 1);
        Due.due("bears(4, 3) again", x.bears(4, 3), Due.STATE);
        Due.due("bears(4, 1)", x.bears(4, 1), 2);
        Due.due("bears(4, 0)", x.bears(4, 0), 3);
        Due.due("bears(4, 2), the 4th", x.bears(4, 2), Due.ROOM);
        Due.due("bears(4, 0), there and full", x.bears(4, 0), Due.STATE);
        Due.due("bears(5, 2), of a FACE", x.bears(5, 2), 1);
        Due.due("bears(1, 0)", x.bears(1, 0), 1);
        Due.due("ahead(4, 2)", x.ahead(4, 2), 0);
    }

    private static void bearsOfOneInState() {
        ClassStarts x = new ClassStarts();
        x.face(true);
        x.face(true);
        x.made(Due.NONE);
        Due.act(x, 2, 1, Due.LOG, 1);
        x.bears(2, 0);
        x.run(2, 1);
        Due.due("bears(2, 1), DONE", x.bears(2, 1), Due.STATE);
        Due.due("bears(1, 0), still NOT", x.bears(1, 0), 1);
        x.again();
        Due.due("bears(2, 1), NOT again", x.bears(2, 1), 2);
        Due.act(x, 2, 0, Due.THROW, 0);
        x.run(2, 1);
        Due.due("state(2)", x.state(2), Due.FAILED);
        Due.due("bears(2, 1), FAILED", x.bears(2, 1), Due.STATE);
    }

    private static void constant() {
        ClassStarts x = Due.classes(2);
        Due.due("constant(2, 0, 1)", x.constant(2, 0, 1), Due.UNKNOWN);
        Due.due("constant(2, 9, 1)", x.constant(2, 9, 1), Due.UNKNOWN);
        Due.due("constant(-1, 0, 1)", x.constant(-1, 0, 1), Due.UNKNOWN);
        Due.due("constant(0, 4, 1)", x.constant(0, 4, 1), Due.OUTSIDE);
        Due.due("constant(0, -1, 1)", x.constant(0, -1, 1), Due.OUTSIDE);
        Due.due("constant(0, 3, MIN)", x.constant(0, 3, Integer.MIN_VALUE), 1);
        Due.due("constant(0, 0, 0)", x.constant(0, 0, 0), 1);
        Due.due("constant(0, 3, 5)", x.constant(0, 3, 5), Due.STATE);
        Due.due("constant(0, 0, 5)", x.constant(0, 0, 5), Due.STATE);
        Due.due("field(0, 3)", x.field(0, 3), Integer.MIN_VALUE);
        Due.due("field(0, 0)", x.field(0, 0), 0);
        Due.due("field(1, 3)", x.field(1, 3), 0);
        Due.due("field(0, 4)", x.field(0, 4), 0);
        Due.due("field(0, -1)", x.field(0, -1), 0);
        Due.due("field(2, 0)", x.field(2, 0), 0);
        Due.due("state(0) after all", x.state(0), Due.NOT);
        x.run(0, 1);
        Due.due("constant(0, 1, 5), DONE", x.constant(0, 1, 5), Due.STATE);
        Due.due("constant(0, 4, 5), DONE", x.constant(0, 4, 5), Due.OUTSIDE);
        x.again();
        Due.due("constant(0, 1, 5), NOT again", x.constant(0, 1, 5), 1);
        Due.due("field(0, 3), NOT again", x.field(0, 3), Integer.MIN_VALUE);
    }
}
