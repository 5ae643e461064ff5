import java.util.ArrayList;
import java.util.Arrays;
import java.util.HashSet;
import java.util.List;
import java.util.Random;
import java.util.Set;

/** Made-up runs of calls, always the same ones, on ClassStarts and on a second program written another way. */
public final class ModelTest {
    private static final int OBJECTS = 12000, CALLS = 180, ASKED = 12, MOST_CALLS = 512, MOST_WRONG = 5;
    private static final int[] ROUGH = {0, 0, 1, 1, 2, 3, 4, 5, 6, 7, 7, 7, 8, 8, 9, 10, 11, 11, 11, 12};
    /** Few that throw: these runs go deep, and on to the 81st ACT. */
    private static final int[] GENTLE = {0, 1, 1, 2, 7, 7, 7, 7, 7, 7, 8, 10, 10, 11, 11};
    private static final List<int[]> QUESTIONS = Model.everyQuestion();
    private static int wrong = 0;
    private static int[] often = ROUGH;

    public static void main(String[] args) {
        for (int seed = 0; seed < OBJECTS && wrong < MOST_WRONG; seed++) {
            oneObject(seed);
        }
        System.out.println(wrong == 0 ? "all answers are as due" : "some answers are not as due");
        if (wrong != 0) {
            System.exit(1);
        }
    }

    private static void oneObject(int seed) {
        Random random = new Random(seed);
        Pair pair = new Pair(seed);
        Model model = pair.model;
        int wild = random.nextInt(4) == 0 ? 6 : 60;
        int kinds = 2 + random.nextInt(12);
        int setUp = 15 + random.nextInt(130);
        often = seed % 2 == 0 ? ROUGH : GENTLE;
        for (int i = 0; i < CALLS; i++) {
            int[] call = i < setUp ? building(random, wild, kinds, model) : asking(random, wild, kinds, model);
            pair.compare(call);
            for (int n = 0; call[0] == 5 && n < ASKED; n++) {
                pair.compare(random.nextBoolean() ? QUESTIONS.get(random.nextInt(QUESTIONS.size()))
                    : ofTheLatestRun(random, model));
            }
        }
        while (pair.calls < MOST_CALLS) {
            pair.compare(QUESTIONS.get(random.nextInt(QUESTIONS.size())));
        }
    }

    /** A question that most likely has another answer than 0. */
    private static int[] ofTheLatestRun(Random random, Model model) {
        int kind = random.nextInt(model.kinds.size());
        int items = model.kinds.get(kind).row == null ? 0 : model.kinds.get(kind).row.length;
        switch (items > 0 ? 5 : random.nextInt(5)) {
            case 0: return new int[] {6};
            case 1: return new int[] {7, random.nextInt(4)};
            case 2: return new int[] {8, random.nextInt(model.events.size() + 1), random.nextInt(2)};
            case 3: return new int[] {10, kind, random.nextInt(4)};
            case 4: return random.nextBoolean() ? new int[] {9, kind} : new int[] {11, kind};
            default: return new int[] {12, kind, random.nextInt(items)};
        }
    }

    /** One object and its model, asked the same within the calls that an object is used for. */
    private static final class Pair {
        final ClassStarts x = new ClassStarts();
        final Model model = new Model();
        private final int seed;
        int calls = 0;

        Pair(int seed) {
            this.seed = seed;
        }

        void compare(int[] call) {
            if (calls == MOST_CALLS || wrong >= MOST_WRONG) {
                calls = MOST_CALLS;
                return;
            }
            calls++;
            int got = made(x, call);
            int want = model.answer(call);
            if (got != want) {
                wrong++;
                System.out.println("object " + seed + ", call " + calls + " " + Arrays.toString(call) + " answered "
                    + got + ", due is " + want);
                calls = MOST_CALLS;
            }
        }
    }

    private static int some(Random random, int wild, int from, int to) {
        if (random.nextInt(wild) == 0) {
            return Due.WILD[random.nextInt(Due.WILD.length)];
        }
        return from + random.nextInt(Math.max(1, to - from + 1));
    }

    private static int[] building(Random random, int wild, int kinds, Model model) {
        int n = model.kinds.size();
        int last = Math.max(0, n - 1);
        int sort = random.nextInt(20);
        if (n < kinds && random.nextInt(5) < 2 || n == 0) {
            return random.nextInt(3) == 0
                ? new int[] {1, random.nextInt(3) == 0 ? 0 : 1}
                : new int[] {0, random.nextInt(3) == 0 ? -1 : some(random, wild, -1, last)};
        }
        if (sort < 3) {
            return new int[] {2, some(random, wild, 0, last), some(random, wild, 0, last)};
        }
        if (sort < 4) {
            return new int[] {3, some(random, wild, 0, last), some(random, wild, 0, 3), some(random, wild, -3, 25)};
        }
        return anAct(random, wild, last);
    }

    private static int[] anAct(Random random, int wild, int last) {
        int sort = random.nextInt(wild) == 0 ? some(random, 2, -1, 13) : often[random.nextInt(often.length)];
        int x = some(random, wild, 0, last);
        int method = some(random, wild, 0, 3);
        int field = some(random, wild, 0, 3);
        int other = some(random, wild, 0, last);
        int c = some(random, wild, 0, 3);
        switch (sort) {
            case 0: return new int[] {4, x, method, sort, field, some(random, wild, -2, 6), c};
            case 7: return new int[] {4, x, method, sort, other, some(random, wild, 1, 3), c};
            case 8: return new int[] {4, x, method, sort, other, field, c};
            case 9: return new int[] {4, x, method, sort, some(random, wild, 0, 2), field, c};
            case 11: return new int[] {4, x, method, sort, some(random, wild, 1, 5),
                random.nextInt(3) == 0 ? -1 : some(random, wild, -1, 9), c};
            case 4: case 5: case 6: return new int[] {4, x, method, sort, field, some(random, wild, 0, 3), c};
            default: return new int[] {4, x, method, sort, field, other, c};
        }
    }

    private static int[] asking(Random random, int wild, int kinds, Model model) {
        int last = Math.max(0, model.kinds.size() - 1);
        int sort = random.nextInt(10);
        if (sort < 4) {
            return new int[] {5, some(random, wild, 0, last), some(random, wild, 1, 3)};
        }
        if (sort < 6) {
            return new int[] {13};
        }
        if (sort < 7) {
            return new int[] {14, some(random, wild, 0, last), some(random, wild, 0, 3)};
        }
        if (sort < 8) {
            return new int[] {15, some(random, wild, 0, last), some(random, wild, 0, last)};
        }
        return building(random, wild, kinds, model);
    }

    private static int made(ClassStarts x, int[] q) {
        switch (q[0]) {
            case 0: return x.made(q[1]);
            case 1: return x.face(q[1] == 1);
            case 2: return x.bears(q[1], q[2]);
            case 3: return x.constant(q[1], q[2], q[3]);
            case 4: return x.act(q[1], q[2], q[3], q[4], q[5], q[6]);
            case 5: return x.run(q[1], q[2]);
            case 6: return x.cause();
            case 7: return x.count(q[1]);
            case 8: return x.event(q[1], q[2]);
            case 9: return x.state(q[1]);
            case 10: return x.field(q[1], q[2]);
            case 11: return x.row(q[1]);
            case 12: return x.item(q[1], q[2]);
            case 13: return x.again();
            case 14: return x.may(q[1], q[2]);
            default: return x.ahead(q[1], q[2]);
        }
    }

    /** What ends ACTS, as an exception: the document's THROWS told in Java's own way. */
    private static final class Thrown extends RuntimeException {
        private static final long serialVersionUID = 1L;
        final int number;
        final int cause;

        Thrown(int number, int cause) {
            super(null, null, false, false);
            this.number = number;
            this.cause = cause;
        }
    }

    private static final class One {
        boolean face;
        boolean defaults;
        int parent = -1;
        final List<Integer> faces = new ArrayList<>();
        final int[] fields = new int[4];
        final Set<Integer> constants = new HashSet<>();
        int[] row = null;
        final List<List<int[]>> methods = List.of(new ArrayList<>(), new ArrayList<>(), new ArrayList<>(),
            new ArrayList<>());
        int state = 0;
    }

    private static final class Model {
        final List<One> kinds = new ArrayList<>();
        private List<int[]> events = new ArrayList<>();
        private int half = 0;
        private int acts = 0;
        private int raised = 0;
        private int cause = -1;
        private int worked = 0;

        static List<int[]> everyQuestion() {
            List<int[]> all = new ArrayList<>();
            all.add(new int[] {6});
            for (int what = -1; what < 5; what++) {
                all.add(new int[] {7, what});
            }
            for (int i = -1; i < 62; i++) {
                for (int what = -1; what < 3; what++) {
                    all.add(new int[] {8, i, what});
                }
            }
            for (int x = -1; x < 13; x++) {
                all.add(new int[] {9, x});
                all.add(new int[] {11, x});
                for (int f = -1; f < 5; f++) {
                    all.add(new int[] {10, x, f});
                    all.add(new int[] {14, x, f});
                }
                for (int i = -1; i < 22; i++) {
                    all.add(new int[] {12, x, i});
                }
                for (int y = -1; y < 13; y++) {
                    all.add(new int[] {15, x, y});
                }
            }
            return all;
        }

        int answer(int[] q) {
            switch (q[0]) {
                case 0: return newClass(q[1]);
                case 1: return newFace(q[1] == 1);
                case 2: return newFaceOf(q[1], q[2]);
                case 3: return newConstant(q[1], q[2], q[3]);
                case 4: return newAct(q);
                case 5: return wholeRun(q[1], q[2]);
                case 6: return cause;
                case 7: return List.of(0, 1, 2, 3).contains(q[1])
                    ? new int[] {events.size(), half, acts, raised}[q[1]] : -3;
                case 8: return q[1] >= 0 && q[1] < events.size() && (q[2] == 0 || q[2] == 1)
                    ? events.get(q[1])[q[2]] : 0;
                case 9: return there(q[1]) ? kinds.get(q[1]).state : -2;
                case 10: return there(q[1]) && within(q[2], 0, 3) ? kinds.get(q[1]).fields[q[2]] : 0;
                case 11: return !there(q[1]) ? -2 : kinds.get(q[1]).row == null ? -1 : kinds.get(q[1]).row.length;
                case 12: return there(q[1]) && kinds.get(q[1]).row != null
                    && within(q[2], 0, kinds.get(q[1]).row.length - 1) ? kinds.get(q[1]).row[q[2]] : 0;
                case 13: return allAgain();
                case 14: return mayBe(q[1], q[2]);
                default: return !there(q[1]) || !there(q[2]) ? -2 : aheadOf(q[1]).contains(q[2]) ? 1 : 0;
            }
        }

        private boolean there(int x) {
            return within(x, 0, kinds.size() - 1);
        }

        private static boolean within(int n, int from, int to) {
            return from <= n && n <= to;
        }

        private int newClass(int parent) {
            if (parent != -1 && !there(parent)) return -2;
            if (parent != -1 && kinds.get(parent).face) return -4;
            if (kinds.size() == 12) return -5;
            One one = new One();
            one.parent = parent;
            kinds.add(one);
            return kinds.size() - 1;
        }

        private int newFace(boolean defaults) {
            if (kinds.size() == 12) return -5;
            One one = new One();
            one.face = true;
            one.defaults = defaults;
            kinds.add(one);
            return kinds.size() - 1;
        }

        private int newFaceOf(int x, int face) {
            if (!there(x) || !there(face)) return -2;
            One one = kinds.get(x);
            if (!kinds.get(face).face || face >= x || one.faces.contains(face) || one.state != 0) return -4;
            if (one.faces.size() == 3) return -5;
            one.faces.add(face);
            return one.faces.size();
        }

        private int newConstant(int x, int f, int value) {
            if (!there(x)) return -2;
            if (!within(f, 0, 3)) return -3;
            if (kinds.get(x).constants.contains(f) || kinds.get(x).state != 0) return -4;
            kinds.get(x).constants.add(f);
            kinds.get(x).fields[f] = value;
            return 1;
        }

        /** What a, b, c of each sort of ACT are: f a FIELD, k a KIND, m a METHOD, t a throw, n, g of a TRY. */
        private static final String[] SHAPES =
            {"f..", "fkf", "fkf", "fkf", "f..", "ff.", "ff.", "km.", "k..", "t..", "...", "ng.", "..."};

        private int newAct(int[] q) {
            int x = q[1];
            int sort = q[3];
            if (!there(x)) return -2;
            boolean known = within(sort, 0, 12);
            boolean fits = known && within(q[2], 0, 3);
            for (int i = 0; known && i < 3; i++) {
                int n = q[4 + i];
                switch (SHAPES[sort].charAt(i)) {
                    case 'k': if (!there(n)) return -2; break;
                    case 'f': fits &= within(n, 0, 3); break;
                    case 'm': fits &= within(n, 1, 3); break;
                    case 't': fits &= within(n, 0, 2); break;
                    case 'n': fits &= within(n, 1, 9); break;
                    case 'g': fits &= within(n, -1, 9); break;
                    default: break;
                }
            }
            if (!fits) return -3;
            if (sort == 8 && kinds.get(q[4]).face) return -4;
            if (kinds.get(x).state != 0) return -4;
            List<int[]> method = kinds.get(x).methods.get(q[2]);
            if (method.size() == 10) return -5;
            method.add(new int[] {sort, q[4], q[5], q[6]});
            return method.size();
        }

        private int wholeRun(int x, int method) {
            if (!there(x)) return -2;
            if (!within(method, 1, 3)) return -3;
            events = new ArrayList<>();
            half = 0;
            acts = 0;
            raised = 0;
            cause = -1;
            worked = 0;
            try {
                wanted(x);
                method(x, method);
                return -1;
            } catch (Thrown t) {
                cause = t.cause;
                return t.number;
            }
        }

        private Thrown raised(int number, int why) {
            raised++;
            return new Thrown(number, why);
        }

        private void happened(int sort, int what) {
            if (events.size() < 60) events.add(new int[] {sort, what});
        }

        private void wanted(int x) {
            One one = kinds.get(x);
            if (one.state == 1 || one.state == 2) return;
            if (one.state == 3) throw raised(8, -1);
            one.state = 1;
            happened(0, x);
            try {
                if (!one.face) {
                    if (one.parent >= 0) wanted(one.parent);
                    through(one).forEach(f -> wanted(f));
                }
                method(x, 0);
            } catch (Thrown t) {
                one.state = 3;
                happened(2, x);
                throw t.number <= 6 ? raised(7, t.number) : t;
            }
            one.state = 2;
            happened(1, x);
        }

        /** FACES with DEFAULTS that are LOOKED THROUGH, in order. */
        private List<Integer> through(One one) {
            List<Integer> all = new ArrayList<>();
            for (int f : one.faces) {
                all.addAll(through(kinds.get(f)));
                if (kinds.get(f).defaults) all.add(f);
            }
            return all;
        }

        private void method(int x, int m) {
            if (worked == 8) throw raised(9, -1);
            worked++;
            try {
                List<int[]> all = kinds.get(x).methods.get(m);
                part(x, all, 0, all.size());
            } finally {
                worked--;
            }
        }

        /** ACTS of one METHOD from .. to - 1: those of a TRY are a part of their own. */
        private void part(int x, List<int[]> all, int from, int to) {
            int i = from;
            while (i < to) {
                if (acts == 80) throw new Thrown(10, -1);
                acts++;
                int[] act = all.get(i);
                i++;
                if (act[0] == 11) {
                    int end = Math.min(to, i + act[1]);
                    try {
                        part(x, all, i, end);
                    } catch (Thrown t) {
                        if (t.number == 10 || act[2] != -1 && act[2] != t.number) throw t;
                    }
                    i = end;
                } else {
                    single(x, act);
                }
            }
        }

        private void single(int x, int[] act) {
            One one = kinds.get(x);
            int a = act[1];
            int b = act[2];
            int c = act[3];
            switch (act[0]) {
                case 0: become(x, a, b); break;
                case 1: {
                    int read = read(x, b, c);
                    become(x, a, one.fields[a] + read);
                    break;
                }
                case 2:
                    if (!kinds.get(b).constants.contains(c)) {
                        wanted(b);
                        become(b, c, one.fields[a]);
                    }
                    break;
                case 3: {
                    int read = read(x, b, c);
                    if (read == 0) throw raised(3, -1);
                    become(x, a, (int) ((long) one.fields[a] / read));
                    break;
                }
                case 4:
                    if (one.fields[a] < 0) throw raised(6, -1);
                    one.row = new int[Math.min(20, one.fields[a])];
                    break;
                case 5:
                    look(one, one.fields[a]);
                    one.row[one.fields[a]] = one.fields[b];
                    break;
                case 6:
                    look(one, one.fields[b]);
                    become(x, a, one.row[one.fields[b]]);
                    break;
                case 7:
                    wanted(a);
                    if (worked < 8) happened(4, 10 * a + b);
                    method(a, b);
                    break;
                case 8: wanted(a); break;
                case 9: throw raised(a, -1);
                case 10: happened(3, a); break;
                default: one.row = null; break;
            }
        }

        private void become(int x, int f, int value) {
            if (!kinds.get(x).constants.contains(f)) kinds.get(x).fields[f] = value;
        }

        private int read(int x, int z, int f) {
            if (!kinds.get(z).constants.contains(f)) {
                wanted(z);
                if (z != x && kinds.get(z).state == 1) half++;
            }
            return kinds.get(z).fields[f];
        }

        private void look(One one, int i) {
            if (one.row == null) throw raised(4, -1);
            if (!within(i, 0, one.row.length - 1)) throw raised(5, -1);
        }

        private int allAgain() {
            int n = 0;
            for (One one : kinds) {
                if (one.state != 0) n++;
                one.state = 0;
                one.row = null;
                for (int f = 0; f < 4; f++) {
                    if (!one.constants.contains(f)) one.fields[f] = 0;
                }
            }
            return n;
        }

        private Set<Integer> aheadOf(int x) {
            Set<Integer> all = new HashSet<>();
            if (!kinds.get(x).face) {
                all.addAll(through(kinds.get(x)));
                int parent = kinds.get(x).parent;
                if (parent >= 0) {
                    all.add(parent);
                    all.addAll(aheadOf(parent));
                }
            }
            return all;
        }

        private int mayBe(int x, int method) {
            if (!there(x)) return -2;
            if (!within(method, 0, 3)) return -3;
            Set<Integer> wanted = new HashSet<>(List.of(x));
            Set<Integer> methods = new HashSet<>(List.of(10 * x + method));
            int before = 0;
            while (before != wanted.size() + methods.size()) {
                before = wanted.size() + methods.size();
                for (int w : new ArrayList<>(wanted)) {
                    wanted.addAll(aheadOf(w));
                    methods.add(10 * w);
                }
                for (int m : new ArrayList<>(methods)) {
                    for (int[] act : kinds.get(m / 10).methods.get(m % 10)) {
                        if (act[0] == 7) methods.add(10 * act[1] + act[2]);
                        if (act[0] == 7 || act[0] == 8) wanted.add(act[1]);
                        if (within(act[0], 1, 3) && !kinds.get(act[2]).constants.contains(act[3])) {
                            wanted.add(act[2]);
                        }
                    }
                }
            }
            int bits = 0;
            for (int w : wanted) bits |= 1 << w;
            return bits;
        }
    }
}
