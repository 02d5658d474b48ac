/** The promises of the document one by one: ordinary inputs, named edges, wrong inputs, the order of refusals. */
public final class PromisesTest {
    private static final int NONE = -1, CLASH = -2, UNKNOWN = -11, CAST = -12, OUTSIDE = -13, STATE = -14, FULL = -15;
    private static final int PUBLIC = 1, PROTECTED = 2, PRIVATE = 4, STATIC = 8, FINAL = 16, VOLATILE = 32, TRANSIENT = 64;
    private static final int ABSTRACT = 128, NATIVE = 256, SYNCHRONIZED = 512, DEFAULT = 1024;
    private static final int CLASS = 0, ABSTRACT_CLASS = 1, FINAL_CLASS = 2, FACE = 3;
    private static final int VOID = 0, BOOLEAN = 1, BYTE = 2, SHORT = 3, CHAR = 4, INT = 5, LONG = 6, FLOAT = 7, DOUBLE = 8;
    private static final int LINK = 9, T = 10;
    private static final int MIN = Integer.MIN_VALUE, MAX = Integer.MAX_VALUE;

    private static String promise = "";
    private static int wrong = 0;
    private static int asked = 0;

    public static void main(String[] args) {
        newObject();
        type();
        face();
        below();
        field();
        fieldRules();
        constant();
        value();
        member();
        classMemberRules();
        faceMemberRules();
        parameter();
        end();
        meetingRules();
        resultRules();
        entry();
        shape();
        parameterOf();
        sought();
        argument();
        call();
        callCandidates();
        callFits();
        callVaried();
        way();
        lacks();
        count();
        broken();
        clear();
        clearOfCounts();
        fullObject();
        System.out.println(asked + " answers, " + wrong + " of them wrong");
        if (wrong != 0) {
            System.exit(1);
        }
    }

    private static void about(String name) {
        promise = name;
    }

    private static void due(long got, long want) {
        asked++;
        if (got != want) {
            wrong++;
            StackTraceElement at = new Throwable().getStackTrace()[1];
            System.out.println(promise + " (line " + at.getLineNumber() + "): answered " + got + ", due is " + want);
        }
    }

    private static int rule(int number) {
        return -40 - number;
    }

    /** A new object with TYPES: sort, parent, sort, parent .. */
    private static FieldMember with(int... sortsAndParents) {
        FieldMember x = new FieldMember();
        for (int i = 0; i < sortsAndParents.length; i += 2) {
            if (x.type(sortsAndParents[i], sortsAndParents[i + 1]) != i / 2) {
                throw new IllegalStateException("a test's own TYPES are wrong");
            }
        }
        return x;
    }

    /** Begins, fills and ends a MEMBER without VARIED; PARAMETERS: kind, dims, kind, dims .. */
    private static int make(FieldMember x, int type, int name, int kind, int marks, boolean body, int... parameters) {
        int begun = x.member(type, name, kind, 0, marks, body);
        if (begun != 1) {
            return begun;
        }
        for (int i = 0; i < parameters.length; i += 2) {
            x.parameter(parameters[i], parameters[i + 1], false);
        }
        return x.end();
    }

    /** The same, of VOID and public, the last PARAMETER VARIED. */
    private static int makeVaried(FieldMember x, int type, int name, int... parameters) {
        x.member(type, name, VOID, 0, PUBLIC, true);
        for (int i = 0; i < parameters.length; i += 2) {
            x.parameter(parameters[i], parameters[i + 1], i + 2 == parameters.length);
        }
        return x.end();
    }

    private static int ask(FieldMember x, int type, int name, int... arguments) {
        for (int i = 0; i < arguments.length; i += 2) {
            x.argument(arguments[i], arguments[i + 1]);
        }
        return x.call(type, name);
    }

    private static final int CAST_THROWN = 1, INDEX_THROWN = 2, OTHER_THROWN = 3;

    private static int thrownByValue(FieldMember x, int entry) {
        try {
            x.value(entry);
            return 0;
        } catch (RuntimeException e) {
            return numberOf(e);
        }
    }

    private static int thrownByParameterOf(FieldMember x, int entry, int i, boolean dims) {
        try {
            x.parameterOf(entry, i, dims);
            return 0;
        } catch (RuntimeException e) {
            return numberOf(e);
        }
    }

    private static int numberOf(RuntimeException e) {
        // What the machine throws by itself tells of a bound or a class; the class throws before it comes to that.
        String text = String.valueOf(e.getMessage());
        if (text.contains("out of bounds") || text.contains("cannot be cast")) {
            return OTHER_THROWN;
        }
        if (e.getClass() == ClassCastException.class) {
            return CAST_THROWN;
        }
        return e.getClass() == ArrayIndexOutOfBoundsException.class ? INDEX_THROWN : OTHER_THROWN;
    }

    private static void newObject() {
        about("promise 1");
        FieldMember x = new FieldMember();
        for (int what = 0; what <= 5; what++) {
            due(x.count(what), 0);
        }
        due(x.below(0, 0), UNKNOWN);
        due(x.entry(0, 0), UNKNOWN);
        due(x.end(), STATE);
        due(x.parameter(INT, 0, false), STATE);
        due(x.way(), 0);
        due(x.broken(1), 0);
        due(x.clear(), 0);
        FieldMember other = new FieldMember();
        x.type(CLASS, NONE);
        due(other.count(0), 0);
    }

    private static void type() {
        about("promise 2");
        FieldMember x = new FieldMember();
        due(x.type(-1, NONE), OUTSIDE);
        due(x.type(4, NONE), OUTSIDE);
        due(x.type(4, 77), OUTSIDE);
        due(x.type(MIN, MIN), OUTSIDE);
        due(x.type(CLASS, 0), UNKNOWN);
        due(x.type(CLASS, CLASH), UNKNOWN);
        due(x.type(CLASS, MAX), UNKNOWN);
        due(x.type(CLASS, NONE), 0);
        due(x.type(ABSTRACT_CLASS, 0), 1);
        due(x.type(FINAL_CLASS, 1), 2);
        due(x.type(FACE, NONE), 3);
        due(x.type(FACE, 0), UNKNOWN);
        due(x.type(FACE, 3), UNKNOWN);
        due(x.type(FACE, CLASH), UNKNOWN);
        due(x.type(CLASS, 2), UNKNOWN);
        due(x.type(CLASS, 3), UNKNOWN);
        due(x.type(CLASS, 4), UNKNOWN);
        due(x.count(0), 4);
        for (int t = 4; t < 12; t++) {
            due(x.type(CLASS, t == 4 ? 1 : t - 1), t);
        }
        due(x.type(CLASS, NONE), FULL);
        due(x.type(FACE, NONE), FULL);
        due(x.type(4, NONE), OUTSIDE);
        due(x.type(CLASS, 12), UNKNOWN);
        due(x.type(CLASS, 2), UNKNOWN);
        due(x.count(0), 12);
        due(x.below(11, 0), 1);
        FieldMember y = with(CLASS, NONE);
        y.member(0, 0, VOID, 0, 0, true);
        due(y.type(CLASS, 0), 1);
        y.end();
        due(y.type(CLASS, 0), 2);
    }

    private static void face() {
        about("promise 3");
        FieldMember x = with(FACE, NONE, FACE, NONE, FACE, NONE, FACE, NONE, CLASS, NONE, CLASS, 4, FACE, NONE);
        due(x.face(7, 0), UNKNOWN);
        due(x.face(-1, 0), UNKNOWN);
        due(x.face(4, 7), UNKNOWN);
        due(x.face(4, -1), UNKNOWN);
        due(x.face(5, 4), UNKNOWN);
        due(x.face(3, 4), UNKNOWN);
        due(x.face(4, 4), UNKNOWN);
        due(x.face(4, 6), OUTSIDE);
        due(x.face(1, 1), OUTSIDE);
        due(x.face(0, 1), OUTSIDE);
        due(x.face(4, 2), 1);
        due(x.face(4, 2), STATE);
        due(x.face(4, 0), 2);
        due(x.face(4, 3), 3);
        due(x.face(4, 0), STATE);
        due(x.face(4, 1), FULL);
        due(x.face(5, 0), 1);
        due(x.face(6, 5), UNKNOWN);
        due(x.face(6, 0), 1);
        due(x.face(6, 1), 2);
        due(x.face(6, 2), 3);
        due(x.face(6, 3), FULL);
        x.member(4, 0, VOID, 0, 0, true);
        due(x.face(5, 1), STATE);
        due(x.face(6, 3), STATE);
        due(x.face(0, 1), OUTSIDE);
        due(x.face(9, 1), UNKNOWN);
        make(x, 0, 0, VOID, 0, false);
        x.end();
        due(x.count(1), 1);
        due(x.face(5, 1), STATE);
        FieldMember y = with(FACE, NONE, CLASS, NONE);
        y.member(1, 0, VOID, 0, 0, false);
        due(y.face(1, 0), 1);
        FieldMember z = with(FACE, NONE, CLASS, NONE);
        z.field(1, 0, INT, 0, 0);
        due(z.face(1, 0), STATE);
    }

    private static void below() {
        about("promise 4");
        FieldMember x = with(FACE, NONE, FACE, NONE, CLASS, NONE, ABSTRACT_CLASS, 2, FINAL_CLASS, 3, FACE, NONE);
        due(x.below(0, 0), 1);
        due(x.below(4, 2), 1);
        due(x.below(4, 3), 1);
        due(x.below(2, 4), 0);
        due(x.below(4, 0), 0);
        due(x.below(6, 0), UNKNOWN);
        due(x.below(0, 6), UNKNOWN);
        due(x.below(-1, 0), UNKNOWN);
        due(x.below(0, -1), UNKNOWN);
        due(x.below(MAX, MIN), UNKNOWN);
        // FACES that come to a TYPE late reach what is below it already.
        x.face(2, 1);
        due(x.below(4, 1), 1);
        due(x.below(4, 0), 0);
        x.face(1, 0);
        due(x.below(4, 0), 1);
        due(x.below(3, 0), 1);
        due(x.below(5, 0), 0);
        due(x.below(0, 1), 0);
        due(x.type(CLASS, 3), 6);
        due(x.below(6, 0), 1);
        due(x.below(6, 4), 0);
    }

    private static void field() {
        about("promise 5");
        FieldMember x = with(CLASS, NONE, FACE, NONE);
        due(x.field(2, 0, INT, 0, 0), UNKNOWN);
        due(x.field(-1, 99, 99, 99, -1), UNKNOWN);
        due(x.field(0, 99, T + 2, 9, -1), UNKNOWN);
        due(x.field(0, 0, MAX, 0, 0), UNKNOWN);
        due(x.field(0, -1, INT, 0, 0), OUTSIDE);
        due(x.field(0, 50, INT, 0, 0), OUTSIDE);
        due(x.field(0, 0, -1, 0, 0), OUTSIDE);
        due(x.field(0, 0, MIN, 0, 0), OUTSIDE);
        due(x.field(0, 0, LINK, 0, 0), OUTSIDE);
        due(x.field(0, 0, LINK, 1, 0), OUTSIDE);
        due(x.field(0, 0, INT, -1, 0), OUTSIDE);
        due(x.field(0, 0, INT, 4, 0), OUTSIDE);
        due(x.field(0, 0, VOID, 1, 0), OUTSIDE);
        due(x.field(0, 0, INT, 0, -1), OUTSIDE);
        due(x.field(0, 0, INT, 0, 2048), OUTSIDE);
        due(x.field(0, 0, INT, 0, 2047), rule(1));
        due(x.field(0, 0, INT, 0, 0), 0);
        due(x.field(0, 49, T + 1, 3, PRIVATE | TRANSIENT | VOLATILE), 1);
        due(x.field(1, 0, T, 0, 0), 2);
        x.member(0, 0, VOID, 0, 0, true);
        due(x.field(0, 0, INT, 0, 2047), STATE);
        due(x.field(0, 50, INT, 0, 0), OUTSIDE);
        due(x.field(0, 1, T + 5, 0, 0), UNKNOWN);
        due(x.end(), 3);
        for (int e = 4; e < 60; e++) {
            due(x.field(e % 2, 1 + e / 2, INT, 0, 0), e);
        }
        due(x.field(0, 40, INT, 0, 0), FULL);
        due(x.field(0, 0, INT, 0, 2047), FULL);
        due(x.field(0, 50, INT, 0, 0), OUTSIDE);
        due(x.field(2, 0, INT, 0, 0), UNKNOWN);
        due(x.member(0, 1, VOID, 0, 32, true), FULL);
        due(x.count(1), 60);
        due(x.count(5), 1);
    }

    private static void fieldRules() {
        about("promise 5, RULES");
        FieldMember x = with(CLASS, NONE, FACE, NONE, CLASS, 0);
        for (int mark = 7; mark <= 10; mark++) {
            due(x.field(0, 0, INT, 0, 1 << mark), rule(1));
        }
        due(x.field(0, 0, VOID, 0, ABSTRACT | PUBLIC | PRIVATE), rule(1));
        due(x.field(0, 0, VOID, 0, PUBLIC | PROTECTED | FINAL | VOLATILE), rule(2));
        due(x.field(0, 0, INT, 0, PROTECTED | PRIVATE), rule(2));
        due(x.field(0, 0, INT, 0, PUBLIC | PRIVATE), rule(2));
        due(x.field(0, 0, INT, 0, PUBLIC | PROTECTED | PRIVATE), rule(2));
        due(x.field(1, 0, VOID, 0, FINAL | VOLATILE), rule(3));
        due(x.field(1, 0, VOID, 0, VOLATILE), rule(4));
        due(x.field(1, 0, INT, 0, TRANSIENT), rule(4));
        due(x.field(1, 0, INT, 0, PROTECTED), rule(4));
        due(x.field(1, 0, INT, 0, PRIVATE), rule(4));
        due(x.field(1, 0, VOID, 0, PUBLIC), rule(5));
        due(x.field(0, 0, VOID, 0, 0), rule(5));
        due(x.count(1), 0);
        due(x.field(0, 0, INT, 0, PUBLIC | STATIC | FINAL | TRANSIENT), 0);
        due(x.field(0, 0, VOID, 0, 0), rule(5));
        due(x.field(0, 0, LONG, 2, PRIVATE), rule(6));
        due(x.field(2, 0, INT, 0, 0), 1);
        due(x.field(1, 0, INT, 0, PUBLIC | STATIC | FINAL), 2);
        due(x.field(1, 0, INT, 0, 0), rule(6));
        due(x.field(1, 1, INT, 0, STATIC), 3);
        due(x.entry(3, 5), PUBLIC | STATIC | FINAL);
        // A MEMBER of that NAME is no FIELD.
        due(make(x, 0, 7, INT, 0, true), 4);
        due(x.field(0, 7, INT, 0, 0), 5);
        due(x.broken(1), 5);
        due(x.broken(2), 4);
        due(x.broken(3), 1);
        due(x.broken(4), 4);
        due(x.broken(5), 3);
        due(x.broken(6), 2);
        due(x.count(5), 19);
    }

    private static void constant() {
        about("promise 6");
        FieldMember x = with(FACE, NONE, CLASS, NONE);
        long[] least = {0, 0, -128, -32768, 0, MIN};
        long[] most = {0, 1, 127, 32767, 65535, MAX};
        for (int kind = BOOLEAN; kind <= INT; kind++) {
            int e = x.field(0, kind, kind, 0, 0);
            due(x.constant(e, least[kind] - 1), rule(7));
            due(x.constant(e, most[kind] + 1), rule(7));
            due(x.constant(e, Long.MAX_VALUE), rule(7));
            due(x.constant(e, Long.MIN_VALUE), rule(7));
            due(x.constant(e, (1L << 32) + 1), rule(7));
            due(x.value(e), 0);
            due(x.constant(e, kind % 2 == 0 ? least[kind] : most[kind]), 1);
            due(x.value(e), kind % 2 == 0 ? least[kind] : most[kind]);
            due(x.constant(e, most[kind]), STATE);
            due(x.constant(e, most[kind] + 1), STATE);
        }
        due(x.broken(7), 25);
        due(x.count(5), 25);
        due(x.constant(-1, 0), UNKNOWN);
        due(x.constant(5, 0), UNKNOWN);
        due(x.constant(MAX, 0), UNKNOWN);
        due(make(x, 1, 0, INT, FINAL, true), 5);
        due(x.constant(5, 0), CAST);
        due(x.field(1, 1, INT, 0, PUBLIC | STATIC), 6);
        due(x.constant(6, 0), STATE);
        due(x.field(1, 2, T, 0, FINAL), 7);
        due(x.constant(7, 0), STATE);
        due(x.field(1, 3, BYTE, 1, FINAL), 8);
        due(x.constant(8, 999), STATE);
        due(x.field(1, 4, DOUBLE, 0, FINAL | PRIVATE), 9);
        due(x.constant(9, Long.MAX_VALUE), 1);
        due(x.constant(9, Long.MAX_VALUE), STATE);
        // 0 is told too.
        due(x.field(1, 5, LONG, 0, FINAL), 10);
        due(x.constant(10, 0), 1);
        due(x.constant(10, 0), STATE);
        due(x.field(1, 6, INT, 0, FINAL), 11);
        x.member(1, 1, VOID, 0, 0, true);
        due(x.constant(11, 3), 1);
        due(x.count(5), 25);
    }

    private static void value() {
        about("promise 7");
        FieldMember x = with(CLASS, NONE);
        long[] longs = {0, 1, -1, 2, 3, -7, 16777215, 16777216, 16777217, 16777218, 16777219, -16777219, 33554431, 33554433,
            33554434, 33554435, 33554437, MAX, MIN, (1L << 53) - 1, 1L << 53, (1L << 53) + 1, (1L << 53) + 2, (1L << 53) + 3,
            -(1L << 53) - 3, (1L << 54) + 2, (1L << 54) + 6, (1L << 62) + 1, Long.MAX_VALUE, Long.MAX_VALUE - 512,
            Long.MAX_VALUE - 511, Long.MIN_VALUE, Long.MIN_VALUE + 1, (1L << 40) + (1L << 16), (1L << 40) + (3L << 16)};
        for (long v : longs) {
            x.clear();
            x.type(CLASS, NONE);
            for (int kind = LONG; kind <= DOUBLE; kind++) {
                due(x.field(0, kind, kind, 0, FINAL), kind - LONG);
                due(x.value(kind - LONG), 0);
                due(x.constant(kind - LONG, v), 1);
            }
            due(x.value(0), v);
            due(x.value(1), Float.floatToIntBits((float) v));
            due(x.value(2), Double.doubleToLongBits((double) v));
        }
        due(thrownByValue(x, -1), INDEX_THROWN);
        due(thrownByValue(x, 3), INDEX_THROWN);
        due(thrownByValue(x, MIN), INDEX_THROWN);
        due(thrownByValue(x, MAX), INDEX_THROWN);
        due(make(x, 0, 0, INT, 0, true), 3);
        due(thrownByValue(x, 3), CAST_THROWN);
        due(thrownByValue(x, 4), INDEX_THROWN);
        x.member(0, 1, INT, 0, 0, true);
        due(thrownByValue(x, 4), INDEX_THROWN);
        x.end();
        due(x.field(0, 20, VOID + 1, 0, 0), 5);
        due(x.value(5), 0);
        x.clear();
        due(thrownByValue(x, 0), INDEX_THROWN);
    }

    private static void member() {
        about("promise 8");
        FieldMember x = with(CLASS, NONE);
        due(x.member(1, 0, INT, 0, 0, true), UNKNOWN);
        due(x.member(-1, 99, LINK, 9, -1, true), UNKNOWN);
        due(x.member(0, 99, T + 1, 9, -1, true), UNKNOWN);
        due(x.member(0, -1, INT, 0, 0, true), OUTSIDE);
        due(x.member(0, 50, INT, 0, 0, true), OUTSIDE);
        due(x.member(0, 0, -1, 0, 0, true), OUTSIDE);
        due(x.member(0, 0, LINK, 0, 0, true), OUTSIDE);
        due(x.member(0, 0, INT, -1, 0, true), OUTSIDE);
        due(x.member(0, 0, INT, 4, 0, true), OUTSIDE);
        due(x.member(0, 0, VOID, 1, 0, true), OUTSIDE);
        due(x.member(0, 0, INT, 0, -1, true), OUTSIDE);
        due(x.member(0, 0, INT, 0, 2048, true), OUTSIDE);
        due(x.count(2), 0);
        due(x.member(0, 0, T, 3, 0, true), 1);
        due(x.count(2), 1);
        due(x.member(0, 0, T, 3, VOLATILE, true), STATE);
        due(x.member(0, 0, LINK, 0, 0, true), OUTSIDE);
        due(x.member(0, 50, INT, 0, 0, true), OUTSIDE);
        due(x.member(0, 50, T + 1, 0, 0, true), UNKNOWN);
        due(x.end(), 0);
        for (int e = 1; e < 60; e++) {
            due(make(x, 0, e % 50, INT, 0, true, e < 50 ? INT : LONG, 0), e);
        }
        due(x.member(0, 0, INT, 0, 0, true), FULL);
        due(x.member(0, 0, INT, 0, VOLATILE, true), FULL);
        due(x.member(0, 50, INT, 0, 0, true), OUTSIDE);
        due(x.count(2), 0);
        due(x.count(5), 0);
    }

    private static void memberDue(int sort, int marks, boolean body, int want) {
        FieldMember x = with(sort, NONE);
        due(x.member(0, 1, VOID, 0, marks, body), want);
        due(x.count(2), want == 1 ? 1 : 0);
        due(x.count(5), want == 1 ? 0 : 1);
        if (want != 1) {
            due(x.broken(-40 - want), 1);
        }
    }

    private static void classMemberRules() {
        about("promise 8, RULES of classes");
        memberDue(CLASS, VOLATILE, true, rule(11));
        memberDue(CLASS, TRANSIENT | PUBLIC | PRIVATE, true, rule(11));
        memberDue(CLASS, PUBLIC | PROTECTED | DEFAULT, true, rule(12));
        memberDue(CLASS, PROTECTED | PRIVATE, true, rule(12));
        memberDue(CLASS, PUBLIC | PRIVATE, true, rule(12));
        memberDue(CLASS, DEFAULT | ABSTRACT | STATIC, true, rule(13));
        memberDue(ABSTRACT_CLASS, DEFAULT, true, rule(13));
        int[] notAbstract = {PRIVATE, STATIC, FINAL, NATIVE, SYNCHRONIZED};
        for (int mark : notAbstract) {
            memberDue(ABSTRACT_CLASS, ABSTRACT | mark, false, rule(14));
            memberDue(CLASS, ABSTRACT | mark, true, rule(14));
        }
        memberDue(CLASS, ABSTRACT, false, rule(15));
        memberDue(FINAL_CLASS, ABSTRACT, true, rule(15));
        memberDue(ABSTRACT_CLASS, ABSTRACT, true, rule(16));
        memberDue(CLASS, NATIVE, true, rule(16));
        memberDue(CLASS, 0, false, rule(17));
        memberDue(ABSTRACT_CLASS, PRIVATE, false, rule(17));
        memberDue(CLASS, STATIC, false, rule(17));
        memberDue(ABSTRACT_CLASS, ABSTRACT, false, 1);
        memberDue(ABSTRACT_CLASS, ABSTRACT | PROTECTED, false, 1);
        memberDue(CLASS, NATIVE | STATIC | FINAL | SYNCHRONIZED | PRIVATE, false, 1);
        memberDue(FINAL_CLASS, STATIC | FINAL | SYNCHRONIZED | PROTECTED, true, 1);
        memberDue(ABSTRACT_CLASS, 0, true, 1);
    }

    private static void faceMemberRules() {
        about("promise 8, RULES of FACES");
        memberDue(FACE, VOLATILE | PROTECTED, true, rule(11));
        memberDue(FACE, PUBLIC | PROTECTED, true, rule(12));
        int[] barred = {PROTECTED, FINAL, SYNCHRONIZED, NATIVE};
        for (int mark : barred) {
            memberDue(FACE, mark, false, rule(13));
            memberDue(FACE, mark | DEFAULT, true, rule(13));
        }
        memberDue(FACE, STATIC | DEFAULT, true, rule(13));
        memberDue(FACE, STATIC | ABSTRACT, true, rule(13));
        memberDue(FACE, DEFAULT | ABSTRACT, false, rule(13));
        memberDue(FACE, PRIVATE | DEFAULT, true, rule(13));
        memberDue(FACE, PRIVATE | ABSTRACT, false, rule(13));
        memberDue(FACE, 0, true, rule(16));
        memberDue(FACE, PUBLIC | ABSTRACT, true, rule(16));
        memberDue(FACE, PRIVATE, false, rule(17));
        memberDue(FACE, STATIC, false, rule(17));
        memberDue(FACE, DEFAULT, false, rule(17));
        memberDue(FACE, 0, false, 1);
        memberDue(FACE, PUBLIC | ABSTRACT, false, 1);
        memberDue(FACE, PRIVATE | STATIC, true, 1);
        memberDue(FACE, PRIVATE, true, 1);
        memberDue(FACE, PUBLIC | STATIC, true, 1);
        memberDue(FACE, DEFAULT, true, 1);
    }

    private static void parameter() {
        about("promise 9");
        FieldMember x = with(CLASS, NONE);
        due(x.parameter(T + 1, 9, true), STATE);
        x.member(0, 0, VOID, 0, 0, true);
        due(x.parameter(T + 1, 9, true), UNKNOWN);
        due(x.parameter(MAX, 0, false), UNKNOWN);
        due(x.parameter(-1, 0, true), OUTSIDE);
        due(x.parameter(LINK, 0, true), OUTSIDE);
        due(x.parameter(INT, -1, true), OUTSIDE);
        due(x.parameter(INT, 4, true), OUTSIDE);
        due(x.parameter(VOID, 1, true), OUTSIDE);
        due(x.parameter(VOID, 0, true), rule(18));
        due(x.parameter(VOID, 0, false), rule(18));
        due(x.parameter(INT, 0, true), rule(20));
        due(x.count(2), 1);
        due(x.count(3), 0);
        due(x.parameter(T, 3, false), 1);
        due(x.parameter(INT, 1, true), 2);
        due(x.parameter(VOID, 0, false), rule(18));
        due(x.parameter(INT, 0, false), rule(19));
        due(x.parameter(INT, 0, true), rule(19));
        due(x.parameter(INT, 1, true), rule(19));
        due(x.count(3), 2);
        due(x.end(), 0);
        due(x.shape(0, 0), 2);
        due(x.shape(0, 1), 1);
        due(x.broken(18), 3);
        due(x.broken(19), 3);
        due(x.broken(20), 1);
        x.member(0, 1, VOID, 0, 0, true);
        for (int i = 1; i <= 5; i++) {
            due(x.parameter(INT, 1, i == 5), i);
        }
        due(x.parameter(INT, 0, false), FULL);
        due(x.parameter(VOID, 0, false), FULL);
        due(x.parameter(LINK, 0, false), OUTSIDE);
        due(x.parameter(T + 1, 0, false), UNKNOWN);
        due(x.end(), 1);
        // Neither PARAMETERS nor VARIED are left over for the next one.
        x.member(0, 2, VOID, 0, 0, true);
        due(x.parameter(INT, 0, false), 1);
        due(x.end(), 2);
        due(x.shape(2, 1), 0);
    }

    private static void end() {
        about("promise 10");
        FieldMember x = with(CLASS, NONE, CLASS, 0);
        due(x.end(), STATE);
        due(make(x, 0, 0, INT, 0, true), 0);
        due(x.end(), STATE);
        due(x.count(2), 0);
        due(make(x, 0, 0, LONG, PRIVATE | STATIC, true), rule(21));
        due(x.count(2), 0);
        due(x.count(1), 1);
        due(x.end(), STATE);
        due(make(x, 0, 0, INT, 0, true, INT, 0), 1);
        due(make(x, 0, 0, INT, 0, true, INT, 1), 2);
        due(make(x, 0, 0, INT, 0, true, LONG, 0), 3);
        due(make(x, 0, 0, INT, 0, true, LONG, 0, INT, 0), 4);
        due(make(x, 0, 0, INT, 0, true, INT, 0, LONG, 0), 5);
        due(make(x, 0, 0, INT, 0, true, INT, 0, LONG, 0), rule(21));
        due(makeVaried(x, 0, 0, INT, 1), rule(21));
        due(make(x, 0, 1, INT, 0, true), 6);
        due(make(x, 1, 0, INT, 0, true), 7);
        due(x.field(0, 2, INT, 0, 0), 8);
        due(make(x, 0, 2, INT, 0, true), 9);
        due(x.broken(21), 3);
        // 21 comes before what is met above.
        due(make(x, 1, 0, LONG, STATIC, true), rule(21));
        due(x.count(1), 10);
    }

    private static void meetingRules() {
        about("promise 10, RULES of what is met");
        FieldMember x = with(ABSTRACT_CLASS, NONE, CLASS, 0, CLASS, 1);
        due(make(x, 0, 0, INT, FINAL | STATIC | PUBLIC, true), 0);
        due(make(x, 2, 0, LONG, 0, true), rule(22));
        due(make(x, 2, 0, LONG, PRIVATE, true), 1);
        due(x.shape(1, 3), NONE);
        due(make(x, 0, 1, INT, STATIC | PUBLIC, true), 2);
        due(make(x, 1, 1, LONG, 0, true), rule(23));
        due(make(x, 1, 1, LONG, STATIC, true), rule(24));
        due(make(x, 1, 1, INT, STATIC | PROTECTED, true), rule(25));
        due(make(x, 1, 1, INT, STATIC | PUBLIC, true), 3);
        due(x.shape(3, 3), 2);
        due(make(x, 2, 1, INT, STATIC | PUBLIC, true), 4);
        due(x.shape(4, 3), 2);
        due(make(x, 0, 2, INT, PRIVATE | FINAL, true), 5);
        due(make(x, 1, 2, LONG, STATIC, true), 6);
        due(x.shape(6, 3), NONE);
        due(make(x, 2, 2, LONG, 0, true), rule(23));
        due(make(x, 2, 2, LONG, STATIC, true), 7);
        due(x.shape(7, 3), 6);
        // None of 0 to 2 is less far than protected, farther than private.
        due(make(x, 0, 3, VOID, PROTECTED, true), 8);
        due(make(x, 1, 3, VOID, 0, true), rule(25));
        due(make(x, 1, 3, VOID, PROTECTED, true), 9);
        due(make(x, 2, 3, VOID, PUBLIC, true), 10);
        due(make(x, 0, 4, VOID, 0, true), 11);
        due(make(x, 1, 4, VOID, PROTECTED, true), 12);
        due(make(x, 1, 3, VOID, PUBLIC, true, INT, 0), 13);
        due(x.shape(13, 3), NONE);
        due(x.broken(22), 1);
        due(x.broken(23), 2);
        due(x.broken(24), 1);
        due(x.broken(25), 2);
        meetingsByNumber();
        staticOfFaces();
    }

    private static void meetingsByNumber() {
        // The ENTRY of the lesser number is judged by all RULES before the next one.
        FieldMember x = with(CLASS, NONE, CLASS, 0, CLASS, 1);
        due(make(x, 1, 0, INT, PUBLIC, true), 0);
        due(make(x, 0, 0, INT, FINAL, true), 1);
        due(make(x, 2, 0, INT, PROTECTED, true), rule(25));
        due(make(x, 2, 0, INT, PUBLIC, true), rule(22));
        FieldMember y = with(FACE, NONE, FACE, NONE, CLASS, NONE);
        y.face(2, 0);
        y.face(2, 1);
        due(make(y, 1, 0, LONG, 0, false), 0);
        due(make(y, 0, 0, INT, 0, false), 1);
        due(make(y, 2, 0, INT, 0, true), rule(24));
        due(make(y, 2, 0, LONG, PUBLIC, true), rule(24));
        due(make(y, 2, 0, LONG, 0, true), rule(25));
    }

    private static void staticOfFaces() {
        FieldMember x = with(FACE, NONE, FACE, NONE, CLASS, NONE, CLASS, 2);
        x.face(1, 0);
        x.face(2, 1);
        due(make(x, 0, 0, INT, STATIC, true), 0);
        due(make(x, 1, 0, LONG, DEFAULT, true), 1);
        due(x.shape(1, 3), NONE);
        due(make(x, 2, 0, LONG, PUBLIC, true), 2);
        due(x.shape(2, 3), 1);
        due(make(x, 0, 1, INT, 0, false), 3);
        due(make(x, 1, 1, LONG, STATIC, true), 4);
        due(x.shape(4, 3), NONE);
        due(make(x, 3, 1, INT, STATIC | PUBLIC, true), rule(23));
        due(make(x, 3, 1, INT, PUBLIC, true), 5);
        due(x.shape(5, 3), 3);
        due(make(x, 0, 2, INT, PRIVATE, true), 6);
        due(make(x, 1, 2, LONG, 0, false), 7);
        due(x.shape(7, 3), NONE);
        // A static one of a class does meet.
        due(make(x, 2, 3, INT, STATIC, true), 8);
        due(make(x, 3, 3, INT, STATIC, true), 9);
        due(x.shape(9, 3), 8);
    }

    private static int makeResult(FieldMember x, int type, int name, int kind, int dims) {
        x.member(type, name, kind, dims, 0, true);
        return x.end();
    }

    private static void resultRules() {
        about("promise 10, RULE 24");
        FieldMember x = with(CLASS, NONE, CLASS, 0, CLASS, NONE);
        due(makeResult(x, 0, 0, T, 0), 0);
        due(makeResult(x, 1, 0, T, 1), rule(24));
        due(makeResult(x, 1, 0, T + 2, 0), rule(24));
        due(makeResult(x, 1, 0, INT, 0), rule(24));
        due(makeResult(x, 1, 0, VOID, 0), rule(24));
        due(makeResult(x, 1, 0, T + 1, 0), 1);
        due(makeResult(x, 0, 1, T + 1, 0), 2);
        due(makeResult(x, 1, 1, T, 0), rule(24));
        due(makeResult(x, 0, 2, T, 1), 3);
        due(makeResult(x, 1, 2, T + 1, 1), rule(24));
        due(makeResult(x, 1, 2, T + 1, 0), rule(24));
        due(makeResult(x, 1, 2, T, 1), 4);
        due(makeResult(x, 0, 3, LONG, 0), 5);
        due(makeResult(x, 1, 3, INT, 0), rule(24));
        due(makeResult(x, 1, 3, LONG, 1), rule(24));
        due(makeResult(x, 1, 3, LONG, 0), 6);
    }

    private static void entry() {
        about("promise 11");
        FieldMember x = with(CLASS, NONE, FACE, NONE);
        due(x.entry(0, 9), UNKNOWN);
        due(x.field(0, 49, T + 1, 3, PRIVATE | VOLATILE), 0);
        x.member(0, 48, T, 2, NATIVE | FINAL | PROTECTED, false);
        due(x.entry(1, 0), UNKNOWN);
        due(x.end(), 1);
        int[] ofField = {0, 0, 49, T + 1, 3, PRIVATE | VOLATILE};
        int[] ofMember = {1, 0, 48, T, 2, NATIVE | FINAL | PROTECTED};
        for (int what = 0; what <= 5; what++) {
            due(x.entry(0, what), ofField[what]);
            due(x.entry(1, what), ofMember[what]);
        }
        due(x.entry(0, 6), OUTSIDE);
        due(x.entry(1, -1), OUTSIDE);
        due(x.entry(2, -1), UNKNOWN);
        due(x.entry(-1, 0), UNKNOWN);
        int[][] told = {{0, PUBLIC | ABSTRACT}, {PUBLIC, PUBLIC | ABSTRACT}, {ABSTRACT, PUBLIC | ABSTRACT},
            {STATIC, STATIC | PUBLIC}, {DEFAULT, DEFAULT | PUBLIC}, {PRIVATE, PRIVATE}, {PRIVATE | STATIC, PRIVATE | STATIC}};
        for (int i = 0; i < told.length; i++) {
            int marks = told[i][0];
            due(make(x, 1, i, INT, marks, (marks & (STATIC | DEFAULT | PRIVATE)) != 0), 2 + i);
            due(x.entry(2 + i, 5), told[i][1]);
            due(x.entry(2 + i, 1), 1);
        }
        due(x.field(1, 9, INT, 0, 0), 9);
        due(x.entry(9, 5), PUBLIC | STATIC | FINAL);
        due(x.entry(9, 0), 0);
    }

    private static void shape() {
        about("promise 12");
        FieldMember x = with(CLASS, NONE, CLASS, 0);
        due(x.shape(0, 9), UNKNOWN);
        x.field(0, 0, INT, 0, 0);
        due(x.shape(0, 9), CAST);
        due(x.shape(0, 0), CAST);
        due(x.shape(1, 0), UNKNOWN);
        due(x.shape(-1, 0), UNKNOWN);
        due(make(x, 0, 0, INT, NATIVE, false), 1);
        due(makeVaried(x, 1, 0, INT, 0, INT, 1), 2);
        due(make(x, 1, 0, INT, 0, true), 3);
        int[][] shapes = {{0, 0, 0, NONE}, {2, 1, 1, NONE}, {0, 0, 1, 1}};
        for (int e = 1; e <= 3; e++) {
            for (int what = 0; what <= 3; what++) {
                due(x.shape(e, what), shapes[e - 1][what]);
            }
        }
        due(x.shape(1, 4), OUTSIDE);
        due(x.shape(1, -1), OUTSIDE);
        // What comes above it later was not met.
        due(make(x, 0, 0, LONG, FINAL, true, INT, 0, INT, 1), 4);
        due(x.shape(2, 3), NONE);
        FieldMember y = with(CLASS, NONE, CLASS, 0, CLASS, 1);
        make(y, 1, 0, INT, 0, true);
        make(y, 0, 0, INT, 0, true);
        due(make(y, 2, 0, INT, 0, true), 2);
        due(y.shape(2, 3), 0);
        due(y.shape(1, 3), NONE);
    }

    private static void parameterOf() {
        about("promise 13");
        FieldMember x = with(CLASS, NONE);
        x.field(0, 0, INT, 0, 0);
        due(make(x, 0, 0, VOID, 0, true), 1);
        due(makeVaried(x, 0, 0, T, 0, DOUBLE, 2, T, 3), 2);
        int[] kinds = {T, DOUBLE, T};
        int[] dims = {0, 2, 3};
        for (int i = 0; i < 3; i++) {
            due(x.parameterOf(2, i, false), kinds[i]);
            due(x.parameterOf(2, i, true), dims[i]);
        }
        due(thrownByParameterOf(x, 2, 3, true), INDEX_THROWN);
        due(thrownByParameterOf(x, 2, -1, false), INDEX_THROWN);
        due(thrownByParameterOf(x, 2, MAX, false), INDEX_THROWN);
        due(thrownByParameterOf(x, 1, 0, false), INDEX_THROWN);
        due(thrownByParameterOf(x, 0, 0, false), CAST_THROWN);
        due(thrownByParameterOf(x, 0, -1, true), CAST_THROWN);
        due(thrownByParameterOf(x, 3, 0, false), INDEX_THROWN);
        due(thrownByParameterOf(x, -1, 0, true), INDEX_THROWN);
        due(thrownByParameterOf(x, MIN, MIN, true), INDEX_THROWN);
        due(thrownByParameterOf(x, 2, 0, true), 0);
    }

    private static void sought() {
        about("promise 14");
        FieldMember x = with(FACE, NONE, FACE, NONE, FACE, NONE, CLASS, NONE, CLASS, 3, CLASS, 4);
        x.face(1, 0);
        x.face(2, 0);
        x.face(3, 0);
        x.face(4, 1);
        x.face(5, 2);
        due(x.sought(6, 50), UNKNOWN);
        due(x.sought(-1, 0), UNKNOWN);
        due(x.sought(0, 50), OUTSIDE);
        due(x.sought(0, -1), OUTSIDE);
        due(x.sought(5, 0), NONE);
        due(x.field(0, 0, INT, 0, 0), 0);
        for (int t = 0; t < 6; t++) {
            due(x.sought(t, 0), 0);
        }
        due(x.field(1, 0, INT, 0, 0), 1);
        due(x.sought(1, 0), 1);
        due(x.sought(2, 0), 0);
        due(x.sought(3, 0), 0);
        due(x.sought(4, 0), CLASH);
        due(x.sought(5, 0), CLASH);
        due(x.field(5, 0, INT, 0, PRIVATE), 2);
        due(x.sought(5, 0), 2);
        due(x.sought(4, 0), CLASH);
        due(make(x, 5, 1, VOID, 0, true), 3);
        due(x.sought(5, 1), NONE);
        due(x.field(2, 3, INT, 0, 0), 4);
        due(x.sought(5, 3), 4);
        due(x.sought(4, 3), NONE);
        soughtClashAbove();
        soughtPrivate();
    }

    private static void soughtClashAbove() {
        // A CLASH in a PARENT or a FACE stays one, with nothing else found and with another.
        FieldMember x = with(FACE, NONE, FACE, NONE, FACE, NONE, FACE, NONE, CLASS, NONE, CLASS, 4, CLASS, NONE);
        due(x.face(2, 0) + x.face(2, 1) + x.face(4, 2) + x.face(5, 3) + x.face(6, 3) + x.face(6, 2), 8);
        x.field(0, 0, INT, 0, 0);
        x.field(1, 0, INT, 0, 0);
        due(x.sought(2, 0), CLASH);
        due(x.sought(4, 0), CLASH);
        due(x.sought(5, 0), CLASH);
        due(x.sought(6, 0), CLASH);
        x.field(3, 0, INT, 0, 0);
        due(x.sought(3, 0), 2);
        due(x.sought(5, 0), CLASH);
        due(x.sought(6, 0), CLASH);
        due(x.field(4, 0, INT, 0, 0), 3);
        due(x.sought(4, 0), 3);
        due(x.sought(5, 0), CLASH);
    }

    private static void soughtPrivate() {
        FieldMember x = with(FACE, NONE, CLASS, NONE, CLASS, 1, CLASS, 2, CLASS, 3);
        x.face(3, 0);
        x.field(1, 0, INT, 0, PROTECTED);
        due(x.sought(4, 0), 0);
        x.field(2, 0, INT, 0, PRIVATE);
        due(x.sought(2, 0), 1);
        // The private one hides what is above it, and is not seen from below.
        due(x.sought(3, 0), NONE);
        due(x.sought(4, 0), NONE);
        x.field(0, 0, INT, 0, 0);
        due(x.sought(3, 0), 2);
        due(x.sought(4, 0), 2);
        x.field(1, 1, INT, 0, 0);
        due(x.sought(4, 1), 3);
        x.field(3, 1, INT, 0, PRIVATE);
        due(x.sought(3, 1), 4);
        due(x.sought(4, 1), NONE);
        FieldMember y = with(CLASS, NONE, CLASS, 0);
        y.field(0, 0, INT, 0, 0);
        y.field(0, 1, INT, 0, PRIVATE);
        due(y.sought(1, 0), 0);
        due(y.sought(1, 1), NONE);
    }

    private static void argument() {
        about("promise 15");
        FieldMember x = with(CLASS, NONE);
        due(x.argument(T + 1, 9), UNKNOWN);
        due(x.argument(MAX, 0), UNKNOWN);
        due(x.argument(VOID, 0), OUTSIDE);
        due(x.argument(VOID, 1), OUTSIDE);
        due(x.argument(-1, 0), OUTSIDE);
        due(x.argument(MIN, 0), OUTSIDE);
        due(x.argument(LINK, 1), OUTSIDE);
        due(x.argument(INT, 4), OUTSIDE);
        due(x.argument(INT, -1), OUTSIDE);
        due(x.count(4), 0);
        due(x.argument(LINK, 0), 1);
        due(x.argument(BOOLEAN, 3), 2);
        due(x.argument(T, 0), 3);
        x.member(0, 0, VOID, 0, 0, true);
        due(x.argument(T, 3), 4);
        due(x.argument(DOUBLE, 0), 5);
        due(x.argument(INT, 0), FULL);
        due(x.argument(VOID, 0), OUTSIDE);
        due(x.argument(T + 1, 0), UNKNOWN);
        due(x.count(4), 5);
    }

    private static void call() {
        about("promise 16");
        FieldMember x = with(CLASS, NONE, CLASS, 0);
        due(x.call(2, 50), UNKNOWN);
        due(x.call(-1, 0), UNKNOWN);
        due(x.call(0, 50), OUTSIDE);
        due(x.call(0, -1), OUTSIDE);
        due(x.call(0, 0), NONE);
        due(make(x, 0, 0, VOID, 0, true), 0);
        due(x.call(0, 0), 0);
        due(x.call(1, 0), 0);
        due(x.call(0, 1), NONE);
        due(x.field(0, 1, INT, 0, 0), 1);
        due(x.call(0, 1), NONE);
        x.argument(INT, 0);
        due(x.call(2, 0), UNKNOWN);
        due(x.call(0, 50), OUTSIDE);
        due(x.count(4), 1);
        due(x.call(0, 0), NONE);
        due(x.count(4), 0);
        due(x.call(0, 0), 0);
        // One that is begun is none yet.
        x.member(0, 5, VOID, 0, 0, true);
        due(x.call(0, 5), NONE);
        due(x.end(), 2);
        due(x.call(0, 5), 2);
        due(make(x, 0, 6, VOID, 0, true, T, 0, T + 1, 0), 3);
        due(make(x, 0, 6, VOID, 0, true, T + 1, 0, T, 0), 4);
        due(ask(x, 0, 6, T + 1, 0, T + 1, 0), CLASH);
        due(x.count(4), 0);
        due(ask(x, 0, 6, T + 1, 0, T, 0), 4);
        due(ask(x, 0, 6, T, 0, T, 0), NONE);
        due(make(x, 0, 6, VOID, 0, true, T + 1, 0, T + 1, 0), 5);
        due(ask(x, 0, 6, T + 1, 0, T + 1, 0), 5);
    }

    private static void callCandidates() {
        about("promise 16, CANDIDATES");
        FieldMember x = with(FACE, NONE, FACE, NONE, CLASS, NONE, CLASS, 2, CLASS, NONE);
        x.face(1, 0);
        x.face(2, 0);
        x.face(3, 1);
        due(make(x, 2, 0, VOID, PRIVATE, true), 0);
        due(x.call(2, 0), 0);
        due(x.call(3, 0), NONE);
        due(x.call(4, 0), NONE);
        due(make(x, 0, 1, VOID, STATIC, true), 1);
        due(x.call(0, 1), 1);
        due(x.call(1, 1), NONE);
        due(x.call(2, 1), NONE);
        due(make(x, 2, 2, VOID, STATIC, true), 2);
        due(x.call(3, 2), 2);
        due(make(x, 0, 3, VOID, 0, false), 3);
        due(x.call(3, 3), 3);
        // The nearest TYPE's one stands for those above it, on every way.
        due(make(x, 1, 3, VOID, 0, false), 4);
        due(x.call(1, 3), 4);
        due(x.call(2, 3), 3);
        due(x.call(3, 3), 4);
        // PARENT and FACE that are not BELOW one another: neither stands for the other.
        due(make(x, 2, 3, VOID, PUBLIC, true), 5);
        due(x.call(2, 3), 5);
        due(x.call(3, 3), CLASH);
        due(make(x, 3, 3, VOID, PUBLIC, true), 6);
        due(x.call(3, 3), 6);
        // A private one of the TYPE itself, a static one of the FACE itself stand for those above too.
        due(make(x, 2, 4, VOID, 0, true), 7);
        due(make(x, 3, 4, VOID, PRIVATE, true), 8);
        due(x.call(3, 4), 8);
        due(make(x, 0, 5, VOID, 0, false), 9);
        due(make(x, 1, 5, VOID, STATIC, true), 10);
        due(x.call(1, 5), 10);
        due(x.call(3, 5), 9);
        // Of other PARAMETERS, that of the TYPE above still comes first if it is nearer.
        due(make(x, 2, 6, VOID, 0, true, INT, 0), 11);
        due(make(x, 3, 6, VOID, 0, true, LONG, 0), 12);
        due(ask(x, 3, 6, INT, 0), 11);
        due(ask(x, 3, 6, LONG, 0), 12);
        // The order in which they came means nothing.
        FieldMember y = with(CLASS, NONE, CLASS, 0);
        due(make(y, 1, 0, VOID, 0, true, T, 0, T, 0), 0);
        due(make(y, 0, 0, VOID, 0, true, T, 0, T, 0), 1);
        due(ask(y, 1, 0, T, 0, T, 0), 0);
        due(ask(y, 0, 0, T, 0, T, 0), 1);
        FieldMember z = with(CLASS, NONE, CLASS, 0);
        due(make(z, 0, 0, VOID, 0, true, T, 0, T + 1, 0), 0);
        due(make(z, 0, 0, VOID, 0, true, T + 1, 0, T, 0), 1);
        due(ask(z, 0, 0, T + 1, 0, T + 1, 0), CLASH);
    }

    private static boolean isFit(int kind, int to) {
        String[] fits = {"", "1", "235678", "35678", "45678", "5678", "678", "78", "8"};
        return fits[kind].indexOf('0' + to) >= 0;
    }

    private static void callFits() {
        about("promise 16, FITS");
        for (int to = BOOLEAN; to <= DOUBLE; to++) {
            FieldMember x = with(CLASS, NONE);
            make(x, 0, 0, VOID, 0, true, to, 0);
            make(x, 0, 1, VOID, 0, true, to, 1);
            for (int kind = BOOLEAN; kind <= DOUBLE; kind++) {
                due(ask(x, 0, 0, kind, 0), isFit(kind, to) ? 0 : NONE);
                due(ask(x, 0, 1, kind, 1), kind == to ? 1 : NONE);
                due(ask(x, 0, 0, kind, 1), NONE);
                due(ask(x, 0, 1, kind, 0), NONE);
            }
            due(ask(x, 0, 0, LINK, 0), NONE);
            due(ask(x, 0, 1, LINK, 0), 1);
            due(ask(x, 0, 0, T, 0), NONE);
        }
        FieldMember x = with(FACE, NONE, CLASS, NONE, CLASS, 1, CLASS, NONE);
        x.face(2, 0);
        for (int dims = 0; dims <= 3; dims++) {
            for (int to = 0; to < 4; to++) {
                make(x, 1, dims * 4 + to, VOID, 0, true, T + to, dims);
            }
        }
        for (int dims = 0; dims <= 3; dims++) {
            for (int to = 0; to < 4; to++) {
                int name = dims * 4 + to;
                boolean one = to == 0 || to == 1 || to == 2;
                due(ask(x, 1, name, T + 2, dims), one ? name : NONE);
                due(ask(x, 1, name, T + 1, dims), to == 1 ? name : NONE);
                due(ask(x, 1, name, T, dims), to == 0 ? name : NONE);
                due(ask(x, 1, name, T + 2, (dims + 1) % 4), NONE);
                due(ask(x, 1, name, LINK, 0), name);
                due(ask(x, 1, name, INT, dims), NONE);
            }
        }
    }

    private static void callVaried() {
        about("promise 16, VARIED");
        FieldMember x = with(CLASS, NONE, CLASS, 0);
        due(makeVaried(x, 0, 0, INT, 1), 0);
        due(x.call(0, 0), 0);
        due(x.way(), 2);
        due(ask(x, 0, 0, BYTE, 0, CHAR, 0, INT, 0, SHORT, 0, INT, 0), 0);
        due(ask(x, 0, 0, INT, 0, LONG, 0), NONE);
        due(ask(x, 0, 0, INT, 1), 0);
        due(x.way(), 1);
        due(ask(x, 0, 0, INT, 1, INT, 1), NONE);
        due(ask(x, 0, 0, INT, 0), 0);
        due(x.way(), 2);
        due(ask(x, 0, 0, BYTE, 1), NONE);
        // THE LINK is an array here, and no item.
        due(ask(x, 0, 0, LINK, 0), 0);
        due(x.way(), 1);
        due(ask(x, 0, 0, LINK, 0, LINK, 0), NONE);
        // One that has as many comes before a VARIED one that would be nearer.
        due(make(x, 0, 0, VOID, 0, true, DOUBLE, 0), 1);
        due(ask(x, 0, 0, INT, 0), 1);
        due(x.way(), 1);
        due(makeVaried(x, 0, 1, LONG, 0, INT, 1), 2);
        due(x.call(0, 1), NONE);
        due(ask(x, 0, 1, INT, 0), 2);
        due(ask(x, 0, 1, FLOAT, 0), NONE);
        due(ask(x, 0, 1, LONG, 0, INT, 0, INT, 0), 2);
        due(ask(x, 0, 1, LONG, 0, LONG, 0), NONE);
        // Both take one int; place by place (2 places) int, int FIT long, int.
        due(makeVaried(x, 0, 1, INT, 1), 3);
        due(ask(x, 0, 1, INT, 0), 3);
        due(ask(x, 0, 1, INT, 0, INT, 0, INT, 0), 3);
        due(ask(x, 0, 1, LONG, 0, INT, 0), 2);
        // Places beyond the arguments count: (T0 ..) against (T1, T1, int ..) with two arguments.
        due(makeVaried(x, 0, 2, T, 1), 4);
        due(makeVaried(x, 0, 2, T + 1, 0, T + 1, 0, INT, 1), 5);
        due(ask(x, 0, 2, T + 1, 0, T + 1, 0), CLASH);
        due(x.way(), 0);
        due(makeVaried(x, 0, 3, T, 1), 6);
        due(makeVaried(x, 0, 3, T + 1, 0, T + 1, 0, T + 1, 1), 7);
        due(ask(x, 0, 3, T + 1, 0, T + 1, 0), 7);
        due(ask(x, 0, 3, T + 1, 0), 6);
        // The items of an array of arrays are arrays.
        due(makeVaried(x, 0, 4, T, 2), 8);
        due(ask(x, 0, 4, T + 1, 1, LINK, 0), 8);
        due(ask(x, 0, 4, T + 1, 0), NONE);
        due(ask(x, 0, 4, T + 1, 2), 8);
        due(x.way(), 1);
        // Two that FIT one another: several.
        due(makeVaried(x, 0, 5, INT, 1), 9);
        due(makeVaried(x, 0, 5, INT, 0, INT, 1), 10);
        due(ask(x, 0, 5, INT, 0), CLASH);
        due(x.call(0, 5), 9);
        // An array PARAMETER that is not VARIED takes no items.
        due(make(x, 0, 7, VOID, 0, true, INT, 1), 11);
        due(ask(x, 0, 7, INT, 0), NONE);
        due(x.call(0, 7), NONE);
        // One that is VARIED stands for one above that is not, and the other way round.
        due(makeVaried(x, 1, 7, INT, 1), 12);
        due(ask(x, 1, 7, INT, 0), 12);
        due(ask(x, 1, 7, INT, 1), 12);
        due(make(x, 1, 5, VOID, PUBLIC, true, INT, 1), 13);
        due(ask(x, 1, 5, INT, 0, INT, 0), 10);
        due(x.call(1, 5), NONE);
    }

    private static void way() {
        about("promise 17");
        FieldMember x = with(CLASS, NONE);
        due(x.way(), 0);
        make(x, 0, 0, VOID, 0, true);
        makeVaried(x, 0, 1, INT, 1);
        makeVaried(x, 0, 2, INT, 1);
        makeVaried(x, 0, 2, BOOLEAN, 1);
        x.call(0, 0);
        due(x.way(), 1);
        due(x.way(), 1);
        x.call(0, 1);
        due(x.way(), 2);
        // A refused one changes nothing.
        due(x.call(1, 1), UNKNOWN);
        due(x.way(), 2);
        due(x.call(0, 50), OUTSIDE);
        due(x.way(), 2);
        due(x.call(0, 2), CLASH);
        due(x.way(), 0);
        x.call(0, 1);
        due(x.call(0, 9), NONE);
        due(x.way(), 0);
        x.call(0, 1);
        x.clear();
        due(x.way(), 0);
    }

    private static void lacks() {
        about("promise 18");
        FieldMember x = with(FACE, NONE, FACE, NONE, ABSTRACT_CLASS, NONE, CLASS, 2, FINAL_CLASS, 3, ABSTRACT_CLASS, 3);
        x.face(2, 0);
        x.face(3, 1);
        due(x.lacks(6, 0), UNKNOWN);
        due(x.lacks(-1, 0), UNKNOWN);
        due(x.lacks(3, 0), NONE);
        due(make(x, 1, 0, VOID, 0, false), 0);
        due(make(x, 2, 1, VOID, ABSTRACT, false), 1);
        due(make(x, 0, 2, VOID, 0, false), 2);
        due(make(x, 0, 0, VOID, 0, false), 3);
        for (int t = 3; t <= 4; t++) {
            for (int i = 0; i < 4; i++) {
                due(x.lacks(t, i), i);
            }
            due(x.lacks(t, 4), NONE);
            due(x.lacks(t, -1), NONE);
            due(x.lacks(t, MIN), NONE);
            due(x.lacks(t, MAX), NONE);
        }
        due(x.lacks(0, 0), NONE);
        due(x.lacks(2, 0), NONE);
        due(x.lacks(5, 0), NONE);
        // Other PARAMETERS, private or static ones do not fill.
        due(make(x, 3, 1, VOID, 0, true, INT, 0), 4);
        due(x.lacks(3, 1), 1);
        due(make(x, 4, 0, VOID, PRIVATE, true), 5);
        due(x.lacks(4, 0), 0);
        due(make(x, 3, 0, VOID, PUBLIC | NATIVE, false), 6);
        due(x.lacks(3, 0), 1);
        due(x.lacks(3, 1), 2);
        due(x.lacks(3, 2), NONE);
        due(x.lacks(4, 0), 1);
        due(make(x, 4, 1, VOID, 0, true), 7);
        due(x.lacks(4, 0), 2);
        due(x.lacks(3, 0), 1);
        due(make(x, 1, 2, VOID, DEFAULT, true), 8);
        due(x.lacks(4, 0), NONE);
        due(x.lacks(3, 0), 1);
        due(x.lacks(3, 1), NONE);
        lacksFilledFromAside();
    }

    private static void lacksFilledFromAside() {
        // A PARENT that knows nothing of the FACE fills it; static ones of a FACE and of a class do not.
        FieldMember x = with(FACE, NONE, CLASS, NONE, CLASS, 1, FACE, NONE, CLASS, NONE);
        x.face(2, 0);
        x.face(2, 3);
        due(make(x, 0, 0, VOID, 0, false), 0);
        due(x.lacks(2, 0), 0);
        due(make(x, 3, 0, VOID, STATIC, true), 1);
        due(x.lacks(2, 0), 0);
        due(make(x, 4, 0, VOID, PUBLIC, true), 2);
        due(x.lacks(2, 0), 0);
        due(make(x, 1, 0, LONG, 0, true), 3);
        due(x.lacks(2, 0), NONE);
        due(make(x, 0, 1, VOID, 0, false), 4);
        due(make(x, 1, 1, VOID, STATIC, true), 5);
        due(x.lacks(2, 0), 4);
        due(make(x, 3, 1, VOID, PRIVATE, true), 6);
        due(x.lacks(2, 0), 4);
        // One with a BODY far above fills what is abstract in between.
        FieldMember y = with(CLASS, NONE, ABSTRACT_CLASS, 0, CLASS, 1);
        due(make(y, 0, 0, VOID, 0, true), 0);
        due(make(y, 1, 0, VOID, ABSTRACT, false), 1);
        due(y.lacks(2, 0), NONE);
        // What is not abstract, or of a TYPE that it is not BELOW, is not lacking.
        FieldMember z = with(ABSTRACT_CLASS, NONE, CLASS, NONE);
        due(make(z, 0, 0, VOID, ABSTRACT, false), 0);
        due(make(z, 1, 1, VOID, PRIVATE, true), 1);
        due(make(z, 1, 2, VOID, STATIC, true), 2);
        due(z.field(1, 3, INT, 0, 0), 3);
        due(z.lacks(1, 0), NONE);
    }

    private static void count() {
        about("promise 19");
        FieldMember x = with(CLASS, NONE, CLASS, 0);
        x.field(0, 0, INT, 0, 0);
        x.field(0, 0, INT, 0, 0);
        x.field(0, 1, VOID, 0, 0);
        due(x.count(0), 2);
        due(x.count(1), 1);
        due(x.count(2), 0);
        due(x.count(3), 0);
        due(x.count(4), 0);
        due(x.count(5), 2);
        x.member(0, 0, VOID, 0, 0, true);
        x.parameter(INT, 0, false);
        x.parameter(INT, 0, false);
        x.parameter(VOID, 0, false);
        x.argument(INT, 0);
        due(x.count(1), 1);
        due(x.count(2), 1);
        due(x.count(3), 2);
        due(x.count(4), 1);
        due(x.count(5), 3);
        x.end();
        due(x.count(1), 2);
        due(x.count(2), 0);
        due(x.count(3), 0);
        due(x.count(4), 1);
        due(x.count(-1), OUTSIDE);
        due(x.count(6), OUTSIDE);
        due(x.count(MIN), OUTSIDE);
    }

    private static void broken() {
        about("promise 20");
        FieldMember x = with(CLASS, NONE);
        for (int number = 1; number <= 25; number++) {
            due(x.broken(number), 0);
        }
        due(x.broken(0), OUTSIDE);
        due(x.broken(26), OUTSIDE);
        due(x.broken(-1), OUTSIDE);
        due(x.broken(MIN), OUTSIDE);
        due(x.broken(MAX), OUTSIDE);
        x.field(0, 0, VOID, 0, 0);
        x.field(0, 0, VOID, 0, 0);
        make(x, 0, 0, INT, 0, true);
        make(x, 0, 0, INT, 0, true);
        // What is refused breaks no RULE.
        x.field(0, 50, VOID, 0, 0);
        for (int number = 1; number <= 25; number++) {
            due(x.broken(number), number == 5 ? 2 : number == 21 ? 1 : 0);
        }
        due(x.count(5), 3);
    }

    private static void clear() {
        about("promise 21");
        FieldMember x = with(FACE, NONE, CLASS, NONE, CLASS, 1);
        x.face(1, 0);
        x.field(1, 0, INT, 0, FINAL);
        x.constant(0, 7);
        x.field(1, 0, INT, 0, 0);
        make(x, 1, 0, VOID, 0, true);
        x.call(1, 0);
        x.argument(INT, 0);
        x.member(1, 1, VOID, 0, 0, true);
        x.parameter(INT, 1, true);
        due(x.clear(), 2);
        for (int what = 0; what <= 5; what++) {
            due(x.count(what), 0);
        }
        due(x.broken(6), 0);
        due(x.way(), 0);
        due(x.end(), STATE);
        due(x.entry(0, 0), UNKNOWN);
        due(x.below(0, 0), UNKNOWN);
        due(x.argument(T, 0), UNKNOWN);
        due(x.clear(), 0);
        due(x.type(CLASS, NONE), 0);
        due(x.type(CLASS, NONE), 1);
        due(x.type(CLASS, 0), 2);
        due(x.below(1, 0), 0);
        due(x.below(2, 1), 0);
        due(x.type(FACE, NONE), 3);
        due(x.type(CLASS, NONE), 4);
        due(x.face(4, 3), 1);
        due(x.call(0, 0), NONE);
        due(x.sought(1, 0), NONE);
        due(x.field(1, 0, INT, 0, FINAL), 0);
        due(x.value(0), 0);
        due(x.constant(0, 8), 1);
        due(make(x, 1, 0, VOID, 0, true), 1);
        due(x.shape(1, 0), 0);
        due(x.shape(1, 1), 0);
        due(x.clear(), 2);
    }

    private static void clearOfCounts() {
        FieldMember x = with(CLASS, NONE, CLASS, 0);
        x.field(0, 0, INT, 0, ABSTRACT);
        make(x, 0, 0, INT, PUBLIC, true);
        due(make(x, 1, 0, INT, 0, true), rule(25));
        due(x.broken(1), 1);
        due(x.broken(25), 1);
        due(x.clear(), 1);
        for (int number = 1; number <= 25; number++) {
            due(x.broken(number), 0);
        }
    }

    private static void fullObject() {
        about("promises 2 to 21, 12 TYPES and 60 ENTRIES");
        FieldMember x = with(ABSTRACT_CLASS, NONE);
        for (int t = 1; t < 12; t++) {
            x.type(t == 11 ? FINAL_CLASS : CLASS, t - 1);
        }
        for (int e = 0; e < 50; e++) {
            due(x.field(0, e, INT, 0, 0), e);
        }
        for (int e = 50; e < 58; e++) {
            due(makeVaried(x, e - 46, 0, T, 1), e);
        }
        due(make(x, 0, 1, VOID, ABSTRACT, false, T + 11, 3), 58);
        due(make(x, 11, 2, VOID, 0, true, T + 11, 0, T, 0, T, 0, T, 0, T, 0), 59);
        due(x.entry(60, 0), UNKNOWN);
        due(x.shape(60, 0), UNKNOWN);
        due(x.constant(60, 0), UNKNOWN);
        due(thrownByValue(x, 60), INDEX_THROWN);
        due(thrownByParameterOf(x, 60, 0, true), INDEX_THROWN);
        due(thrownByParameterOf(x, 59, 5, true), INDEX_THROWN);
        due(x.parameterOf(59, 4, false), T);
        due(x.below(11, 0), 1);
        due(x.below(12, 0), UNKNOWN);
        due(x.argument(T + 11, 0), 1);
        due(x.argument(T + 12, 0), UNKNOWN);
        due(x.call(11, 0), 57);
        due(x.call(3, 0), NONE);
        due(ask(x, 11, 2, T + 11, 0, T + 11, 0, T + 1, 0, LINK, 0, T, 0), 59);
        due(x.sought(11, 49), 49);
        due(x.lacks(11, 0), 58);
        due(x.lacks(11, 1), NONE);
        due(x.field(0, 49, INT, 0, 0), FULL);
        due(x.member(0, 49, INT, 0, 0, true), FULL);
        due(x.clear(), 60);
        due(x.sought(0, 0), UNKNOWN);
    }
}
