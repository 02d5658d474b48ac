public final class Promise10EndTest extends PromiseTest {
    public static void main(String[] args) {
        run(Promise10EndTest.class);
    }

    /** "It is ended: its ENTRY"; the first one and the sixtieth. */
    static void promise10_itsEntry() {
        FieldMember x = with(CLASS, NONE);
        x.member(0, 0, INT, 0, 0, true);
        due(x.end(), 0);
        due(x.count(1), 1);
        due(x.count(2), 0);
        FieldMember y = fullButOne();
        y.member(5, 49, INT, 0, 0, true);
        due(y.end(), 59);
        due(y.entry(59, 2), 49);
        due(y.count(1), 60);
    }

    /** "STATE: none is begun": at first, after an end, after a RULE, after clear. */
    static void promise10_state() {
        refused(PromiseTest::bare, STATE, FieldMember::end);
        refused(PromiseTest::furnished, STATE, FieldMember::end);
        refused(PromiseTest::fullOfEntries, STATE, FieldMember::end);
        FieldMember x = begun();
        due(x.end(), 7);
        due(x.end(), STATE);
        FieldMember y = furnished();
        due(y.member(5, 3, INT, 0, 0, false), rule(17));
        due(y.end(), STATE);
        FieldMember z = begun();
        z.clear();
        due(z.end(), STATE);
    }

    /** "or breaks a RULE and is gone": all else is as before it was begun, but for the count. */
    static void promise10_brokenIsGone() {
        breaks(PromiseTest::furnished, 21, x -> make(x, 3, 5, INT, PUBLIC, true, T + 2, 0, LONG, 1));
        breaks(PromiseTest::furnished, 24, x -> make(x, 4, 5, LONG, PUBLIC, true));
        breaks(PromiseTest::furnished, 25, x -> make(x, 4, 5, VOID, 0, true, T + 2, 0, LONG, 0));
        breaks(PromiseTest::fullButOne, 21, x -> make(x, 3, 6, INT, PUBLIC, true));
        FieldMember x = furnished();
        due(make(x, 4, 5, LONG, PUBLIC, true), rule(24));
        due(x.end(), STATE);
        due(make(x, 4, 5, INT, PUBLIC, true), 7);
    }

    private static FieldMember one(int... parameters) {
        FieldMember x = with(CLASS, NONE, CLASS, 0);
        make(x, 0, 0, INT, PUBLIC, true, parameters);
        return x;
    }

    /** "21 its TYPE has a MEMBER of that NAME and the same PARAMETERS": result, MARKS and BODY mean nothing. */
    static void promise10_rule21() {
        breaks(() -> one(), 21, x -> make(x, 0, 0, INT, PUBLIC, true));
        breaks(() -> one(), 21, x -> make(x, 0, 0, T, PRIVATE | STATIC, true));
        breaks(() -> one(INT, 0), 21, x -> make(x, 0, 0, LONG, NATIVE, false, INT, 0));
        breaks(() -> one(INT, 0, T, 1, LONG, 0, T, 0, INT, 3), 21,
            x -> make(x, 0, 0, INT, PUBLIC, true, INT, 0, T, 1, LONG, 0, T, 0, INT, 3));
    }

    /** "(KINDS, DIMS)": one that differs at the first or the last place, or has one more or less, is another. */
    static void promise10_rule21NotOthers() {
        answers(() -> one(INT, 0), 1, x -> make(x, 0, 0, INT, PUBLIC, true, LONG, 0));
        answers(() -> one(INT, 0), 1, x -> make(x, 0, 0, INT, PUBLIC, true, INT, 1));
        answers(() -> one(INT, 0), 1, x -> make(x, 0, 0, INT, PUBLIC, true));
        answers(() -> one(INT, 0), 1, x -> make(x, 0, 0, INT, PUBLIC, true, INT, 0, INT, 0));
        answers(() -> one(INT, 0, LONG, 0), 1, x -> make(x, 0, 0, INT, PUBLIC, true, LONG, 0, INT, 0));
        answers(() -> one(INT, 0, T, 1, LONG, 0, T, 0, INT, 3), 1,
            x -> make(x, 0, 0, INT, PUBLIC, true, INT, 0, T, 1, LONG, 0, T, 0, INT, 2));
        answers(() -> one(INT, 0, T, 1, LONG, 0, T, 0, INT, 3), 1,
            x -> make(x, 0, 0, INT, PUBLIC, true, INT, 0, T, 1, LONG, 0, T, 0, BYTE, 3));
        answers(() -> one(T, 0), 1, x -> make(x, 0, 0, INT, PUBLIC, true, T + 1, 0));
        answers(() -> one(), 1, x -> make(x, 0, 1, INT, PUBLIC, true));
        answers(() -> one(), 1, x -> make(x, 1, 0, INT, PUBLIC, true));
    }

    /** VARIED makes no other PARAMETERS. */
    static void promise10_rule21Varied() {
        breaks(() -> one(INT, 1), 21, x -> makeVaried(x, 0, 0, INT, 1));
        Scene scene = () -> {
            FieldMember x = with(CLASS, NONE);
            makeVaried(x, 0, 0, INT, 1);
            return x;
        };
        breaks(scene, 21, x -> make(x, 0, 0, INT, PUBLIC, true, INT, 1));
    }

    /** 21 holds of private ones and of static ones of a FACE too, and comes before 22 to 25. */
    static void promise10_rule21First() {
        Scene scene = () -> {
            FieldMember x = with(FACE, NONE, CLASS, NONE, CLASS, 1);
            make(x, 1, 0, INT, FINAL | PUBLIC, true);
            make(x, 2, 0, INT, PRIVATE, true);
            make(x, 0, 0, INT, STATIC, true);
            return x;
        };
        breaks(scene, 21, x -> make(x, 2, 0, LONG, STATIC, true));
        breaks(scene, 21, x -> make(x, 2, 0, LONG, PRIVATE, true));
        breaks(scene, 21, x -> make(x, 0, 0, LONG, STATIC, true));
        breaks(scene, 21, x -> make(x, 0, 0, LONG, 0, false));
    }

    /** One PARENT with a MEMBER of those MARKS, NAME 0, int; class 1 is BELOW it, class 2 BELOW 1. */
    private static Scene above(int marks) {
        return () -> {
            FieldMember x = with(CLASS, NONE, CLASS, 0, CLASS, 1);
            make(x, 0, 0, INT, marks, true);
            return x;
        };
    }

    /** "22 that one is final": not that it is final itself. */
    static void promise10_rule22() {
        breaks(above(FINAL), 22, x -> make(x, 1, 0, INT, 0, true));
        breaks(above(FINAL), 22, x -> make(x, 2, 0, INT, PUBLIC, true));
        breaks(above(FINAL | STATIC), 22, x -> make(x, 1, 0, INT, STATIC, true));
        answers(above(0), 1, x -> make(x, 1, 0, INT, FINAL, true));
        answers(above(FINAL | PRIVATE), 1, x -> make(x, 1, 0, INT, 0, true));
        answers(above(FINAL), 1, x -> make(x, 1, 0, INT, 0, true, INT, 0));
        answers(above(FINAL), 1, x -> make(x, 1, 1, INT, 0, true));
    }

    /** "23 one of both is static, the other not". */
    static void promise10_rule23() {
        breaks(above(STATIC), 23, x -> make(x, 1, 0, INT, 0, true));
        breaks(above(0), 23, x -> make(x, 1, 0, INT, STATIC, true));
        answers(above(STATIC), 1, x -> make(x, 1, 0, INT, STATIC, true));
        answers(above(0), 1, x -> make(x, 1, 0, INT, 0, true));
    }

    /** "(a static one of a FACE meets nothing and is not met)": of a class it does, and a FACE's not static one is. */
    static void promise10_rule23OfFaces() {
        Scene scene = () -> {
            FieldMember x = with(FACE, NONE, FACE, NONE, CLASS, NONE);
            x.face(1, 0);
            x.face(2, 0);
            make(x, 0, 0, INT, STATIC, true);
            make(x, 0, 1, INT, 0, false);
            return x;
        };
        answers(scene, 2, x -> make(x, 2, 0, LONG, 0, true));
        answers(scene, 2, x -> make(x, 2, 0, LONG, STATIC, true));
        answers(scene, 2, x -> make(x, 1, 0, LONG, 0, false));
        answers(scene, 2, x -> make(x, 1, 0, LONG, STATIC, true));
        answers(scene, 2, x -> make(x, 1, 1, LONG, STATIC, true));
        breaks(scene, 23, x -> make(x, 2, 1, INT, STATIC | PUBLIC, true));
        for (int type = 1; type <= 2; type++) {
            FieldMember x = scene.made();
            due(make(x, type, type == 1 ? 1 : 0, LONG, STATIC, true), 2);
            due(x.shape(2, 3), NONE);
        }
    }

    private static int result(FieldMember x, int type, int kind, int dims) {
        x.member(type, 0, kind, dims, PUBLIC, true);
        return x.end();
    }

    private static Scene resultAbove(int kind, int dims) {
        return () -> {
            FieldMember x = with(FACE, NONE, CLASS, NONE, CLASS, 1, CLASS, NONE);
            x.face(2, 0);
            result(x, 1, kind, dims);
            return x;
        };
    }

    /** "24 its result is not of the same KIND and DIMS": numbers do not widen. */
    static void promise10_rule24Same() {
        for (int kind = VOID; kind <= DOUBLE; kind++) {
            int of = kind;
            answers(resultAbove(of, 0), 1, x -> result(x, 2, of, 0));
            int other = kind == DOUBLE ? VOID : kind + 1;
            breaks(resultAbove(of, 0), 24, x -> result(x, 2, other, 0));
            breaks(resultAbove(other, 0), 24, x -> result(x, 2, of, 0));
            breaks(resultAbove(of, 0), 24, x -> result(x, 2, T, 0));
        }
        for (int dims = 1; dims <= 3; dims++) {
            int levels = dims;
            answers(resultAbove(INT, levels), 1, x -> result(x, 2, INT, levels));
            breaks(resultAbove(INT, levels), 24, x -> result(x, 2, INT, levels - 1));
            breaks(resultAbove(INT, levels), 24, x -> result(x, 2, LONG, levels));
        }
    }

    /** "nor both DIMS 0 and its TYPE BELOW the other one's": its own is the lower one; arrays are not. */
    static void promise10_rule24Below() {
        answers(resultAbove(T + 1, 0), 1, x -> result(x, 2, T + 2, 0));
        answers(resultAbove(T, 0), 1, x -> result(x, 2, T + 2, 0));
        answers(resultAbove(T + 1, 0), 1, x -> result(x, 2, T + 1, 0));
        breaks(resultAbove(T + 2, 0), 24, x -> result(x, 2, T + 1, 0));
        breaks(resultAbove(T + 1, 0), 24, x -> result(x, 2, T + 3, 0));
        breaks(resultAbove(T, 0), 24, x -> result(x, 2, T + 1, 0));
        for (int dims = 1; dims <= 3; dims++) {
            int levels = dims;
            breaks(resultAbove(T + 1, levels), 24, x -> result(x, 2, T + 2, levels));
            breaks(resultAbove(T + 1, 0), 24, x -> result(x, 2, T + 2, levels));
            breaks(resultAbove(T + 1, levels), 24, x -> result(x, 2, T + 2, 0));
            breaks(resultAbove(T + 1, levels), 24, x -> result(x, 2, T + 1, 0));
            answers(resultAbove(T + 1, levels), 1, x -> result(x, 2, T + 1, levels));
        }
    }

    /** "25 it is seen less far (public, protected, none of 0 to 2, private: farthest first)". */
    static void promise10_rule25() {
        int[] farthestFirst = {PUBLIC, PROTECTED, 0};
        for (int upper = 0; upper < 3; upper++) {
            for (int own = 0; own < 3; own++) {
                int marks = farthestFirst[own];
                if (own > upper) {
                    breaks(above(farthestFirst[upper]), 25, x -> make(x, 1, 0, INT, marks, true));
                } else {
                    answers(above(farthestFirst[upper]), 1, x -> make(x, 1, 0, INT, marks, true));
                }
            }
        }
    }

    /** What a FACE tells is public in any case. */
    static void promise10_rule25OfFaces() {
        Scene scene = () -> {
            FieldMember x = with(FACE, NONE, CLASS, NONE, FACE, NONE);
            x.face(1, 0);
            x.face(2, 0);
            make(x, 0, 0, INT, 0, false);
            return x;
        };
        breaks(scene, 25, x -> make(x, 1, 0, INT, 0, true));
        breaks(scene, 25, x -> make(x, 1, 0, INT, PROTECTED, true));
        answers(scene, 1, x -> make(x, 1, 0, INT, PUBLIC, true));
        answers(scene, 1, x -> make(x, 2, 0, INT, 0, false));
        answers(scene, 1, x -> make(x, 2, 0, INT, DEFAULT, true));
    }

    /** "A private one meets nothing", and "not private" are those that are met. */
    static void promise10_privateOnes() {
        FieldMember x = above(FINAL | STATIC | PUBLIC).made();
        due(make(x, 1, 0, LONG, PRIVATE, true), 1);
        due(x.shape(1, 3), NONE);
        due(make(x, 2, 0, INT, PUBLIC | STATIC, true), rule(22));
        FieldMember y = above(PRIVATE | FINAL | STATIC).made();
        due(make(y, 1, 0, LONG, 0, true), 1);
        due(y.shape(1, 3), NONE);
        due(make(y, 2, 0, LONG, 0, true), 2);
        due(y.shape(2, 3), 1);
    }

    /** "of the TYPES that its own is BELOW (but itself)": not of those BELOW it, nor aside. */
    static void promise10_onlyAbove() {
        FieldMember x = with(CLASS, NONE, CLASS, 0, CLASS, 0);
        due(make(x, 1, 0, INT, FINAL, true), 0);
        due(make(x, 0, 0, LONG, STATIC, true), 1);
        due(x.shape(1, 3), NONE);
        due(make(x, 2, 0, LONG, STATIC, true), 2);
        due(x.shape(2, 3), 1);
    }

    /** "It MEETS": all the way up, through PARENTS and FACES alike. */
    static void promise10_allTheWayUp() {
        FieldMember x = with(FACE, NONE, FACE, NONE, CLASS, NONE);
        x.face(1, 0);
        x.face(2, 1);
        for (int t = 3; t < 12; t++) {
            x.type(CLASS, t - 1);
        }
        due(make(x, 0, 0, INT, 0, false), 0);
        due(make(x, 11, 0, LONG, PUBLIC, true), rule(24));
        due(make(x, 11, 0, INT, PUBLIC, true), 1);
        due(x.shape(1, 3), 0);
    }

    /** "each by the RULES in order". */
    static void promise10_firstRule() {
        breaks(above(FINAL | PUBLIC), 22, x -> make(x, 1, 0, LONG, STATIC, true));
        breaks(above(PUBLIC), 23, x -> make(x, 1, 0, LONG, STATIC, true));
        breaks(above(PUBLIC), 24, x -> make(x, 1, 0, LONG, 0, true));
        breaks(above(FINAL | PUBLIC), 22, x -> make(x, 1, 0, INT, 0, true));
    }

    /** "judged ENTRY by ENTRY by their numbers": the lesser number's last RULE before the next one's first. */
    static void promise10_entryByEntry() {
        Scene lowerFirst = () -> {
            FieldMember x = with(CLASS, NONE, CLASS, 0, CLASS, 1);
            make(x, 1, 0, INT, PUBLIC, true);
            make(x, 0, 0, INT, FINAL, true);
            return x;
        };
        breaks(lowerFirst, 25, x -> make(x, 2, 0, INT, 0, true));
        breaks(lowerFirst, 24, x -> make(x, 2, 0, LONG, PUBLIC, true));
        breaks(lowerFirst, 22, x -> make(x, 2, 0, INT, PUBLIC, true));
        Scene faces = () -> {
            FieldMember x = with(FACE, NONE, CLASS, NONE, CLASS, 1);
            x.face(2, 0);
            make(x, 0, 0, INT, 0, false);
            make(x, 1, 0, INT, STATIC, true);
            return x;
        };
        breaks(faces, 25, x -> make(x, 2, 0, INT, 0, true));
        breaks(faces, 23, x -> make(x, 2, 0, INT, PUBLIC, true));
        breaks(faces, 23, x -> make(x, 2, 0, INT, STATIC | PUBLIC, true));
    }

    /** Arguments that wait, and what was called, are not touched. */
    static void promise10_leavesArguments() {
        FieldMember x = begun();
        due(x.end(), 7);
        due(x.count(4), 2);
        due(x.way(), 2);
        due(x.call(4, 5), 4);
    }

    static void promise10_inOneRun() {
        FieldMember x = with(CLASS, NONE, CLASS, 0);
        due(x.end(), STATE);
        due(make(x, 0, 0, INT, 0, true), 0);
        due(x.end(), STATE);
        due(x.count(2), 0);
        due(make(x, 0, 0, LONG, PRIVATE | STATIC, true), rule(21));
        due(x.count(2), 0);
        due(x.count(1), 1);
        due(x.end(), STATE);
        due(make(x, 0, 0, INT, 0, true, INT, 0), 1);
        due(make(x, 0, 0, INT, 0, true, INT, 1), 2);
        due(make(x, 0, 0, INT, 0, true, LONG, 0), 3);
        due(make(x, 0, 0, INT, 0, true, LONG, 0, INT, 0), 4);
        due(make(x, 0, 0, INT, 0, true, INT, 0, LONG, 0), 5);
        due(make(x, 0, 0, INT, 0, true, INT, 0, LONG, 0), rule(21));
        due(makeVaried(x, 0, 0, INT, 1), rule(21));
        due(make(x, 0, 1, INT, 0, true), 6);
        due(make(x, 1, 0, INT, 0, true), 7);
        due(x.field(0, 2, INT, 0, 0), 8);
        due(make(x, 0, 2, INT, 0, true), 9);
        due(x.broken(21), 3);
        // 21 comes before what is met above.
        due(make(x, 1, 0, LONG, STATIC, true), rule(21));
        due(x.count(1), 10);
    }

    static void promise10_meetingsInOneRun() {
        FieldMember x = with(ABSTRACT_CLASS, NONE, CLASS, 0, CLASS, 1);
        due(make(x, 0, 0, INT, FINAL | STATIC | PUBLIC, true), 0);
        due(make(x, 2, 0, LONG, 0, true), rule(22));
        due(make(x, 2, 0, LONG, PRIVATE, true), 1);
        due(x.shape(1, 3), NONE);
        due(make(x, 0, 1, INT, STATIC | PUBLIC, true), 2);
        due(make(x, 1, 1, LONG, 0, true), rule(23));
        due(make(x, 1, 1, LONG, STATIC, true), rule(24));
        due(make(x, 1, 1, INT, STATIC | PROTECTED, true), rule(25));
        due(make(x, 1, 1, INT, STATIC | PUBLIC, true), 3);
        due(x.shape(3, 3), 2);
        due(make(x, 2, 1, INT, STATIC | PUBLIC, true), 4);
        due(x.shape(4, 3), 2);
        due(make(x, 0, 2, INT, PRIVATE | FINAL, true), 5);
        due(make(x, 1, 2, LONG, STATIC, true), 6);
        due(x.shape(6, 3), NONE);
        due(make(x, 2, 2, LONG, 0, true), rule(23));
        due(make(x, 2, 2, LONG, STATIC, true), 7);
        due(x.shape(7, 3), 6);
        // None of 0 to 2 is less far than protected, farther than private.
        due(make(x, 0, 3, VOID, PROTECTED, true), 8);
        due(make(x, 1, 3, VOID, 0, true), rule(25));
        due(make(x, 1, 3, VOID, PROTECTED, true), 9);
        due(make(x, 2, 3, VOID, PUBLIC, true), 10);
        due(make(x, 0, 4, VOID, 0, true), 11);
        due(make(x, 1, 4, VOID, PROTECTED, true), 12);
        due(make(x, 1, 3, VOID, PUBLIC, true, INT, 0), 13);
        due(x.shape(13, 3), NONE);
        due(x.broken(22), 1);
        due(x.broken(23), 2);
        due(x.broken(24), 1);
        due(x.broken(25), 2);
    }

    static void promise10_meetingsByNumber() {
        // The ENTRY of the lesser number is judged by all RULES before the next one.
        FieldMember x = with(CLASS, NONE, CLASS, 0, CLASS, 1);
        due(make(x, 1, 0, INT, PUBLIC, true), 0);
        due(make(x, 0, 0, INT, FINAL, true), 1);
        due(make(x, 2, 0, INT, PROTECTED, true), rule(25));
        due(make(x, 2, 0, INT, PUBLIC, true), rule(22));
        FieldMember y = with(FACE, NONE, FACE, NONE, CLASS, NONE);
        y.face(2, 0);
        y.face(2, 1);
        due(make(y, 1, 0, LONG, 0, false), 0);
        due(make(y, 0, 0, INT, 0, false), 1);
        due(make(y, 2, 0, INT, 0, true), rule(24));
        due(make(y, 2, 0, LONG, PUBLIC, true), rule(24));
        due(make(y, 2, 0, LONG, 0, true), rule(25));
    }

    static void promise10_staticOfFaces() {
        FieldMember x = with(FACE, NONE, FACE, NONE, CLASS, NONE, CLASS, 2);
        x.face(1, 0);
        x.face(2, 1);
        due(make(x, 0, 0, INT, STATIC, true), 0);
        due(make(x, 1, 0, LONG, DEFAULT, true), 1);
        due(x.shape(1, 3), NONE);
        due(make(x, 2, 0, LONG, PUBLIC, true), 2);
        due(x.shape(2, 3), 1);
        due(make(x, 0, 1, INT, 0, false), 3);
        due(make(x, 1, 1, LONG, STATIC, true), 4);
        due(x.shape(4, 3), NONE);
        due(make(x, 3, 1, INT, STATIC | PUBLIC, true), rule(23));
        due(make(x, 3, 1, INT, PUBLIC, true), 5);
        due(x.shape(5, 3), 3);
        due(make(x, 0, 2, INT, PRIVATE, true), 6);
        due(make(x, 1, 2, LONG, 0, false), 7);
        due(x.shape(7, 3), NONE);
        // A static one of a class does meet.
        due(make(x, 2, 3, INT, STATIC, true), 8);
        due(make(x, 3, 3, INT, STATIC, true), 9);
        due(x.shape(9, 3), 8);
    }

    private static int makeResult(FieldMember x, int type, int name, int kind, int dims) {
        x.member(type, name, kind, dims, 0, true);
        return x.end();
    }

    static void promise10_resultsInOneRun() {
        FieldMember x = with(CLASS, NONE, CLASS, 0, CLASS, NONE);
        due(makeResult(x, 0, 0, T, 0), 0);
        due(makeResult(x, 1, 0, T, 1), rule(24));
        due(makeResult(x, 1, 0, T + 2, 0), rule(24));
        due(makeResult(x, 1, 0, INT, 0), rule(24));
        due(makeResult(x, 1, 0, VOID, 0), rule(24));
        due(makeResult(x, 1, 0, T + 1, 0), 1);
        due(makeResult(x, 0, 1, T + 1, 0), 2);
        due(makeResult(x, 1, 1, T, 0), rule(24));
        due(makeResult(x, 0, 2, T, 1), 3);
        due(makeResult(x, 1, 2, T + 1, 1), rule(24));
        due(makeResult(x, 1, 2, T + 1, 0), rule(24));
        due(makeResult(x, 1, 2, T, 1), 4);
        due(makeResult(x, 0, 3, LONG, 0), 5);
        due(makeResult(x, 1, 3, INT, 0), rule(24));
        due(makeResult(x, 1, 3, LONG, 1), rule(24));
        due(makeResult(x, 1, 3, LONG, 0), 6);
    }
}
