/** The Terms of KINDS, and promises 1 to 5: new objects, CLASSES, FACES, what they bear, CONSTANT FIELDS. */
public final class KindsTest {
    public static void main(String[] args) {
        hold();
        Due.end();
    }

    static void hold() {
        Sentence.holds(Sentence.KINDS, "KINDS of things, numbered as they are made (12 at most)", KindsTest::twelve);
        Sentence.holds(Sentence.KINDS, "CLASSES, with a PARENT (a CLASS made before) or none", KindsTest::parents);
        Sentence.holds(Sentence.KINDS, "and FACES, which may have DEFAULTS", KindsTest::defaults);
        Sentence.holds(Sentence.KINDS, "Each X of them has up to 3 FACES", KindsTest::threeFaces);
        Sentence.holds(Sentence.KINDS, "(made before,", KindsTest::facesMadeBefore);
        Sentence.holds(Sentence.KINDS, "in the order told,", KindsTest::facesInOrder);
        Sentence.holds(Sentence.KINDS, "none twice)", KindsTest::noFaceTwice);
        Sentence.holds(Sentence.KINDS, "FIELDS 0 .. 3", KindsTest::fourFields);
        Sentence.holds(Sentence.KINDS, "(ints, 0 at first;", KindsTest::fieldsAtFirst);
        Sentence.holds(Sentence.KINDS, "a FIELD may be CONSTANT)", KindsTest::anyFieldConstant);
        Sentence.holds(Sentence.KINDS, "a ROW (none at first)", KindsTest::noRowAtFirst);
        Sentence.holds(Sentence.KINDS, "and METHODS 0 .. 3 of", KindsTest::fourMethods);
        Sentence.holds(Sentence.KINDS, "up to 10 ACTS each", KindsTest::tenActs);
        Sentence.holds(Sentence.KINDS, "METHOD 0 is its START's.", KindsTest::methodOfTheStart);

        Sentence.holds(1, "Nothing is there.", KindsTest::newObject);
        Sentence.holds(1, "Nothing is there.", KindsTest::objectsShareNothing);

        Sentence.holds(2, "A CLASS of a PARENT (NONE): its number.", KindsTest::made);
        Sentence.holds(2, "UNKNOWN;", KindsTest::madeOfNoSuch);
        Sentence.holds(2, "STATE: the PARENT is a FACE;", KindsTest::madeOfAFace);
        Sentence.holds(2, "ROOM.", KindsTest::madeTheThirteenth);

        Sentence.holds(3, "A FACE: its number.", KindsTest::face);
        Sentence.holds(3, "ROOM.", KindsTest::faceTheThirteenth);

        Sentence.holds(4, "X has a FACE more: how many.", KindsTest::bears);
        Sentence.holds(4, "UNKNOWN;", KindsTest::bearsNoSuch);
        Sentence.holds(4, "STATE: the other one is no FACE,", KindsTest::bearsNoFace);
        Sentence.holds(4, "not made before X,", KindsTest::bearsOneMadeLater);
        Sentence.holds(4, "or is there;", KindsTest::bearsOneThatIsThere);
        Sentence.holds(4, "X is not NOT;", KindsTest::bearsWhenStarted);
        Sentence.holds(4, "ROOM.", KindsTest::bearsTheFourth);

        Sentence.holds(5, "A FIELD is CONSTANT, of this value: 1.", KindsTest::constant);
        Sentence.holds(5, "UNKNOWN;", KindsTest::constantOfNoSuch);
        Sentence.holds(5, "OUTSIDE;", KindsTest::constantOutside);
        Sentence.holds(5, "STATE: it is already;", KindsTest::constantTwice);
        Sentence.holds(5, "X is not NOT.", KindsTest::constantWhenStarted);
    }

    private static void twelve() {
        ClassStarts x = new ClassStarts();
        for (int i = 0; i < 12; i++) {
            Due.due("the number of KIND " + i, i % 2 == 0 ? x.face(true) : x.made(Due.NONE), i);
        }
        Due.due("a 13th, a FACE", x.face(false), Due.ROOM);
        Due.due("a 13th, a CLASS", x.made(Due.NONE), Due.ROOM);
        Due.due("state(11)", x.state(11), Due.NOT);
        Due.due("state(12)", x.state(12), Due.UNKNOWN);
        Due.due("may(11, 0)", x.may(11, 0), 1 << 11);
        Due.due("run(11, 1)", x.run(11, 1), Due.NONE);
        Due.due("run(12, 1)", x.run(12, 1), Due.UNKNOWN);
    }

    private static void parents() {
        ClassStarts x = new ClassStarts();
        Due.due("made(0), the number that it would have", x.made(0), Due.UNKNOWN);
        Due.due("made(NONE)", x.made(Due.NONE), 0);
        Due.due("made(1), the number that it would have", x.made(1), Due.UNKNOWN);
        for (int i = 1; i < 12; i++) {
            Due.due("made(" + (i - 1) + ")", x.made(i - 1), i);
        }
        Due.due("ahead(11, 0), the first of all", x.ahead(11, 0), 1);
        Due.due("run(11, 1)", x.run(11, 1), Due.NONE);
        for (int i = 0; i < 12; i++) {
            Due.due("event(" + i + ", 1)", x.event(i, 1), 11 - i);
            Due.due("event(" + (12 + i) + ", 1)", x.event(12 + i, 1), i);
        }
        ClassStarts y = Due.classes(2);
        Due.due("ahead(1, 0) without a PARENT", y.ahead(1, 0), 0);
    }

    private static void defaults() {
        ClassStarts x = Due.kinds("FfC");
        x.bears(2, 0);
        x.bears(2, 1);
        Due.due("run(2, 1)", x.run(2, 1), Due.NONE);
        Due.due("state(0), with DEFAULTS", x.state(0), Due.DONE);
        Due.due("state(1), without", x.state(1), Due.NOT);
    }

    private static void threeFaces() {
        ClassStarts x = Due.kinds("FfFfCF");
        for (int kind = 4; kind < 6; kind++) {
            for (int i = 0; i < 3; i++) {
                Due.due("bears(" + kind + ", " + i + ")", x.bears(kind, i), i + 1);
            }
            Due.due("the 4th", x.bears(kind, 3), Due.ROOM);
        }
        Due.due("run(4, 1)", x.run(4, 1), Due.NONE);
        Due.dueEvents("three are looked through", x, 0, 4, 0, 0, 1, 0, 0, 2, 1, 2, 1, 4);
    }

    private static void facesMadeBefore() {
        ClassStarts x = Due.kinds("FFCF");
        Due.due("bears(1, 1), itself", x.bears(1, 1), Due.STATE);
        Due.due("bears(0, 1), the next one", x.bears(0, 1), Due.STATE);
        Due.due("bears(2, 3), the next one", x.bears(2, 3), Due.STATE);
        Due.due("bears(1, 0), the one before", x.bears(1, 0), 1);
        Due.due("bears(2, 1), the one before", x.bears(2, 1), 1);
        Due.due("bears(3, 0), the first", x.bears(3, 0), 1);
    }

    private static void facesInOrder() {
        int[][] orders = {{0, 1, 2}, {0, 2, 1}, {1, 0, 2}, {1, 2, 0}, {2, 0, 1}, {2, 1, 0}};
        for (int[] order : orders) {
            ClassStarts x = Due.kinds("FFFC");
            for (int i = 0; i < 3; i++) {
                Due.due("bears(3, " + order[i] + ")", x.bears(3, order[i]), i + 1);
            }
            Due.due("run(3, 1)", x.run(3, 1), Due.NONE);
            Due.dueEvents("as told", x, 0, 3, 0, order[0], 1, order[0], 0, order[1], 1, order[1], 0, order[2],
                1, order[2], 1, 3);
        }
    }

    private static void noFaceTwice() {
        ClassStarts x = Due.kinds("FFFC");
        for (int i = 0; i < 3; i++) {
            Due.due("bears(3, " + i + ")", x.bears(3, i), i + 1);
            for (int told = 0; told <= i; told++) {
                Due.due("bears(3, " + told + ") again", x.bears(3, told), Due.STATE);
            }
        }
        Due.due("bears(1, 0), of another one", x.bears(1, 0), 1);
        Due.due("bears(1, 0) again", x.bears(1, 0), Due.STATE);
    }

    private static void fourFields() {
        ClassStarts x = Due.classes(1);
        for (int f = 0; f < 4; f++) {
            Due.due("SET of FIELD " + f, x.act(0, 1, Due.SET, f, 10 + f, 0), f + 1);
        }
        Due.due("SET of FIELD 4", x.act(0, 1, Due.SET, 4, 14, 0), Due.OUTSIDE);
        Due.due("SET of FIELD -1", x.act(0, 1, Due.SET, -1, 9, 0), Due.OUTSIDE);
        Due.due("run(0, 1)", x.run(0, 1), Due.NONE);
        for (int f : Due.WILD) {
            Due.due("field(0, " + f + ")", x.field(0, f), f >= 0 && f < 4 ? 10 + f : 0);
        }
    }

    private static void fieldsAtFirst() {
        ClassStarts x = Due.kinds("FC");
        for (int f = 0; f < 4; f++) {
            Due.due("field(0, " + f + ")", x.field(0, f), 0);
            Due.due("field(1, " + f + ")", x.field(1, f), 0);
        }
        Due.act(x, 1, 1, Due.SET, 0, Due.MIN);
        Due.act(x, 1, 1, Due.SET, 3, Due.MAX);
        Due.due("run(1, 1)", x.run(1, 1), Due.NONE);
        Due.due("field(1, 0), the least int", x.field(1, 0), Due.MIN);
        Due.due("field(1, 3), the greatest", x.field(1, 3), Due.MAX);
        Due.due("field(0, 0), of another one", x.field(0, 0), 0);
    }

    private static void anyFieldConstant() {
        for (int f = 0; f < 4; f++) {
            ClassStarts x = Due.kinds("FC");
            Due.due("constant(0, " + f + ", 5), of a FACE", x.constant(0, f, 5), 1);
            Due.due("constant(1, " + f + ", 6), of a CLASS", x.constant(1, f, 6), 1);
            for (int g = 0; g < 4; g++) {
                Due.due("field(0, " + g + ")", x.field(0, g), g == f ? 5 : 0);
                Due.due("field(1, " + g + ")", x.field(1, g), g == f ? 6 : 0);
            }
        }
    }

    private static void noRowAtFirst() {
        ClassStarts x = Due.kinds("FC");
        Due.act(x, 1, 1, Due.OUT, 0, 0);
        Due.due("row(0)", x.row(0), Due.NONE);
        Due.due("row(1)", x.row(1), Due.NONE);
        Due.due("item(1, 0)", x.item(1, 0), 0);
        Due.due("an OUT of it", x.run(1, 1), 4);
    }

    private static void fourMethods() {
        ClassStarts x = Due.kinds("FC");
        for (int method : Due.WILD) {
            int want = method >= 0 && method < 4 ? 1 : Due.OUTSIDE;
            Due.due("an ACT of METHOD " + method + " of a FACE", x.act(0, method, Due.LOG, method, 0, 0), want);
            Due.due("an ACT of METHOD " + method + " of a CLASS", x.act(1, method, Due.LOG, method, 0, 0), want);
        }
        for (int method = 1; method < 4; method++) {
            Due.due("run(1, " + method + ")", x.run(1, method), Due.NONE);
            Due.due("its LOG", x.event(x.count(0) - 1, 1), method);
        }
    }

    private static void tenActs() {
        ClassStarts x = Due.classes(1);
        for (int method = 0; method < 4; method++) {
            for (int i = 1; i <= 10; i++) {
                Due.due("ACT " + i + " of METHOD " + method, x.act(0, method, Due.LOG, i, 0, 0), i);
            }
            Due.due("the 11th of METHOD " + method, x.act(0, method, Due.LOG, 11, 0, 0), Due.ROOM);
        }
        Due.due("run(0, 3)", x.run(0, 3), Due.NONE);
        Due.due("ten of METHOD 0 and ten of METHOD 3", x.count(2), 20);
        Due.due("the last LOG", x.event(x.count(0) - 1, 1), 10);
    }

    private static void methodOfTheStart() {
        ClassStarts x = Due.kinds("FC");
        for (int kind = 0; kind < 2; kind++) {
            Due.act(x, kind, 0, Due.LOG, 5);
            Due.due("run(" + kind + ", 2)", x.run(kind, 2), Due.NONE);
            Due.dueEvents("in the START", x, 0, kind, 3, 5, 1, kind);
            Due.due("run(" + kind + ", 2) once more", x.run(kind, 2), Due.NONE);
            Due.dueEvents("and never after it", x);
            Due.due("run(" + kind + ", 0)", x.run(kind, 0), Due.OUTSIDE);
        }
        Due.due("a CALL of METHOD 0", Due.classes(1).act(0, 1, Due.CALL, 0, 0, 0), Due.OUTSIDE);
    }

    private static void newObject() {
        ClassStarts x = new ClassStarts();
        for (int n : Due.WILD) {
            Due.due("state(" + n + ")", x.state(n), Due.UNKNOWN);
            Due.due("row(" + n + ")", x.row(n), Due.UNKNOWN);
            Due.due("field(" + n + ", 0)", x.field(n, 0), 0);
            Due.due("item(" + n + ", 0)", x.item(n, 0), 0);
            Due.due("run(" + n + ", 1)", x.run(n, 1), Due.UNKNOWN);
            Due.due("may(" + n + ", 0)", x.may(n, 0), Due.UNKNOWN);
            Due.due("ahead(" + n + ", " + n + ")", x.ahead(n, n), Due.UNKNOWN);
            Due.due("act(" + n + ", ..)", x.act(n, 0, 0, 0, 0, 0), Due.UNKNOWN);
            Due.due("constant(" + n + ", 0, 0)", x.constant(n, 0, 0), Due.UNKNOWN);
            Due.due("bears(" + n + ", " + n + ")", x.bears(n, n), Due.UNKNOWN);
        }
        Due.due("cause()", x.cause(), Due.NONE);
        Due.due("again()", x.again(), 0);
        for (int what = 0; what < 4; what++) {
            Due.due("count(" + what + ")", x.count(what), 0);
        }
        Due.dueEvents("no run() yet", x);
        Due.due("the first one", x.made(Due.NONE), 0);
    }

    private static void objectsShareNothing() {
        ClassStarts x = Due.classes(12);
        Due.act(x, 0, 0, Due.THROW, 2);
        Due.due("run(0, 1)", x.run(0, 1), 7);
        newObject();
        Due.due("cause() of the first object", x.cause(), 2);
        Due.due("state(0) of the first object", x.state(0), Due.FAILED);
    }

    private static void made() {
        ClassStarts x = new ClassStarts();
        Due.due("made(NONE)", x.made(-1), 0);
        Due.due("made(0)", x.made(0), 1);
        Due.due("face(true)", x.face(true), 2);
        Due.due("made(1)", x.made(1), 3);
        Due.due("made(0), a second one of it", x.made(0), 4);
        Due.due("ahead(3, 0)", x.ahead(3, 0), 1);
        Due.due("ahead(4, 1)", x.ahead(4, 1), 0);
        Due.due("state(3)", x.state(3), Due.NOT);
        Due.due("row(3)", x.row(3), Due.NONE);
        Due.act(x, 1, 0, Due.THROW, 0);
        Due.due("run(1, 1)", x.run(1, 1), 7);
        Due.due("made(0), which is DONE", x.made(0), 5);
        Due.due("made(1), which FAILED", x.made(1), 6);
    }

    private static void madeOfNoSuch() {
        ClassStarts x = Due.kinds("CC");
        for (int n : Due.WILD) {
            if (n < -1 || n > 1) {
                Due.due("made(" + n + ")", x.made(n), Due.UNKNOWN);
            }
        }
        Due.due("the next one", x.made(Due.NONE), 2);
    }

    private static void madeOfAFace() {
        ClassStarts x = Due.kinds("FfC");
        Due.due("made(0)", x.made(0), Due.STATE);
        Due.due("made(1)", x.made(1), Due.STATE);
        Due.due("made(2)", x.made(2), 3);
    }

    private static void madeTheThirteenth() {
        ClassStarts x = Due.classes(11);
        Due.due("the 12th", x.made(10), 11);
        Due.due("the 13th, of NONE", x.made(Due.NONE), Due.ROOM);
        Due.due("the 13th, of a PARENT", x.made(11), Due.ROOM);
        Due.due("state(12)", x.state(12), Due.UNKNOWN);
    }

    private static void face() {
        ClassStarts x = new ClassStarts();
        Due.due("face(true)", x.face(true), 0);
        Due.due("face(false)", x.face(false), 1);
        Due.due("made(NONE)", x.made(Due.NONE), 2);
        Due.due("face(true)", x.face(true), 3);
        Due.due("state(3)", x.state(3), Due.NOT);
        Due.due("made(3), no CLASS", x.made(3), Due.STATE);
        Due.due("a FACE runs too", x.run(1, 1), Due.NONE);
        Due.due("state(1)", x.state(1), Due.DONE);
    }

    private static void faceTheThirteenth() {
        ClassStarts x = Due.classes(11);
        Due.due("the 12th", x.face(true), 11);
        Due.due("the 13th", x.face(true), Due.ROOM);
        Due.due("the 13th, without DEFAULTS", x.face(false), Due.ROOM);
        Due.due("state(12)", x.state(12), Due.UNKNOWN);
    }

    private static void bears() {
        ClassStarts x = Due.kinds("FfFCF");
        Due.due("bears(3, 1)", x.bears(3, 1), 1);
        Due.due("bears(3, 0)", x.bears(3, 0), 2);
        Due.due("bears(3, 2)", x.bears(3, 2), 3);
        Due.due("bears(4, 2), of a FACE", x.bears(4, 2), 1);
        Due.due("ahead(3, 0)", x.ahead(3, 0), 1);
        Due.due("ahead(3, 1), without DEFAULTS", x.ahead(3, 1), 0);
        Due.due("ahead(3, 2)", x.ahead(3, 2), 1);
    }

    private static void bearsNoSuch() {
        ClassStarts x = Due.kinds("FC");
        for (int n : Due.WILD) {
            if (n < 0 || n > 1) {
                Due.due("bears(1, " + n + ")", x.bears(1, n), Due.UNKNOWN);
                Due.due("bears(" + n + ", 0)", x.bears(n, 0), Due.UNKNOWN);
                Due.due("bears(" + n + ", " + n + ")", x.bears(n, n), Due.UNKNOWN);
            }
        }
        Due.due("bears(1, 0)", x.bears(1, 0), 1);
    }

    private static void bearsNoFace() {
        ClassStarts x = Due.kinds("CCF");
        Due.due("bears(1, 0)", x.bears(1, 0), Due.STATE);
        Due.due("bears(2, 0), of a FACE", x.bears(2, 0), Due.STATE);
        Due.due("bears(1, 1), itself", x.bears(1, 1), Due.STATE);
    }

    private static void bearsOneMadeLater() {
        ClassStarts x = Due.kinds("fFCfCF");
        for (int kind = 0; kind < 6; kind++) {
            for (int face : new int[] {0, 1, 3, 5}) {
                Due.due("bears(" + kind + ", " + face + ")", x.bears(kind, face) > 0 ? 1 : 0, face < kind ? 1 : 0);
            }
        }
        Due.due("bears(0, 5)", x.bears(0, 5), Due.STATE);
        Due.due("bears(4, 5)", x.bears(4, 5), Due.STATE);
        Due.due("bears(3, 3), itself", x.bears(3, 3), Due.STATE);
    }

    private static void bearsOneThatIsThere() {
        ClassStarts x = Due.kinds("FfCP");
        Due.due("bears(2, 1)", x.bears(2, 1), 1);
        Due.due("bears(2, 1) again", x.bears(2, 1), Due.STATE);
        Due.due("bears(2, 0)", x.bears(2, 0), 2);
        Due.due("bears(2, 0) again", x.bears(2, 0), Due.STATE);
        Due.due("bears(2, 1) again", x.bears(2, 1), Due.STATE);
        Due.due("bears(3, 1), the PARENT has it", x.bears(3, 1), 1);
        Due.due("bears(1, 0)", x.bears(1, 0), 1);
        Due.due("bears(3, 0), one of its FACES has it", x.bears(3, 0), 2);
    }

    private static void bearsTheFourth() {
        for (String letters : new String[] {"FFFFC", "ffffF", "FfFff"}) {
            ClassStarts x = Due.kinds(letters);
            Due.due("the first", x.bears(4, 3), 1);
            Due.due("the second", x.bears(4, 1), 2);
            Due.due("the third", x.bears(4, 0), 3);
            Due.due("the fourth", x.bears(4, 2), Due.ROOM);
            Due.due("of another one there is room", x.bears(3, 2), 1);
            x.again();
            Due.due("the fourth after again()", x.bears(4, 2), Due.ROOM);
        }
    }

    private static void bearsWhenStarted() {
        ClassStarts x = Due.kinds("FFCF");
        x.bears(2, 0);
        x.run(2, 1);
        x.run(3, 1);
        Due.due("bears(2, 1), DONE", x.bears(2, 1), Due.STATE);
        Due.due("bears(3, 1), a FACE that is DONE", x.bears(3, 1), Due.STATE);
        Due.due("bears(1, 0), NOT, of one that is DONE", x.bears(1, 0), 1);
        x.again();
        Due.due("bears(2, 1), NOT again", x.bears(2, 1), 2);
        Due.act(x, 3, 0, Due.THROW, 0);
        Due.due("run(3, 1)", x.run(3, 1), 7);
        Due.due("bears(3, 1), FAILED", x.bears(3, 1), Due.STATE);
        x.again();
        Due.due("bears(3, 1), NOT again", x.bears(3, 1), 1);
    }

    private static void constant() {
        ClassStarts x = Due.classes(2);
        Due.due("constant(0, 3, MIN)", x.constant(0, 3, Due.MIN), 1);
        Due.due("constant(0, 0, MAX)", x.constant(0, 0, Due.MAX), 1);
        Due.due("constant(1, 1, 0)", x.constant(1, 1, 0), 1);
        Due.due("constant(1, 2, -1)", x.constant(1, 2, -1), 1);
        Due.due("field(0, 3)", x.field(0, 3), Due.MIN);
        Due.due("field(0, 0)", x.field(0, 0), Due.MAX);
        Due.due("field(0, 1)", x.field(0, 1), 0);
        Due.due("field(1, 1)", x.field(1, 1), 0);
        Due.due("field(1, 2)", x.field(1, 2), -1);
        Due.act(x, 1, 1, Due.SET, 1, 9);
        Due.due("run(1, 1)", x.run(1, 1), Due.NONE);
        Due.due("field(1, 1), CONSTANT of 0", x.field(1, 1), 0);
        Due.due("state(0)", x.state(0), Due.NOT);
    }

    private static void constantOfNoSuch() {
        ClassStarts x = Due.classes(2);
        for (int n : Due.WILD) {
            if (n < 0 || n > 1) {
                Due.due("constant(" + n + ", 0, 1)", x.constant(n, 0, 1), Due.UNKNOWN);
            }
        }
        Due.due("constant(1, 0, 1)", x.constant(1, 0, 1), 1);
    }

    private static void constantOutside() {
        for (int f : Due.WILD) {
            ClassStarts x = Due.classes(1);
            Due.due("constant(0, " + f + ", 1)", x.constant(0, f, 1), f >= 0 && f < 4 ? 1 : Due.OUTSIDE);
            Due.due("field(0, " + f + ")", x.field(0, f), f >= 0 && f < 4 ? 1 : 0);
        }
    }

    private static void constantTwice() {
        ClassStarts x = Due.classes(2);
        for (int f = 0; f < 4; f++) {
            Due.due("constant(0, " + f + ", 0)", x.constant(0, f, 0), 1);
            Due.due("constant(0, " + f + ", 5)", x.constant(0, f, 5), Due.STATE);
            Due.due("constant(0, " + f + ", 0), of the same value", x.constant(0, f, 0), Due.STATE);
            Due.due("field(0, " + f + ")", x.field(0, f), 0);
        }
        x.again();
        Due.due("constant(0, 0, 5) after again()", x.constant(0, 0, 5), Due.STATE);
        Due.due("constant(1, 0, 5), of another one", x.constant(1, 0, 5), 1);
    }

    private static void constantWhenStarted() {
        ClassStarts x = Due.classes(2);
        Due.act(x, 1, 0, Due.THROW, 0);
        x.run(0, 1);
        x.run(1, 1);
        Due.due("constant(0, 1, 5), DONE", x.constant(0, 1, 5), Due.STATE);
        Due.due("constant(1, 1, 5), FAILED", x.constant(1, 1, 5), Due.STATE);
        Due.due("field(0, 1)", x.field(0, 1), 0);
        x.again();
        Due.due("constant(0, 1, 5), NOT again", x.constant(0, 1, 5), 1);
        Due.due("constant(1, 1, 6), NOT again", x.constant(1, 1, 6), 1);
        Due.due("field(0, 1)", x.field(0, 1), 5);
    }
}
