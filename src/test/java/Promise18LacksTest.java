public final class Promise18LacksTest extends PromiseTest {
    public static void main(String[] args) {
        run(Promise18LacksTest.class);
    }

    /** "UNKNOWN", whatever i is. */
    static void promise18_unknown() {
        for (int type : new int[] {-1, 6, 12, MIN, MAX}) {
            refused(PromiseTest::furnished, UNKNOWN, x -> x.lacks(type, 0));
            refused(PromiseTest::furnished, UNKNOWN, x -> x.lacks(type, -1));
        }
        refused(PromiseTest::fullOfTypes, UNKNOWN, x -> x.lacks(12, 0));
        answers(PromiseTest::fullOfTypes, NONE, x -> x.lacks(11, 0));
    }

    /** A FACE, an ABSTRACT class, a class and a FINAL one that are BELOW both; three that are lacking. */
    private static FieldMember scene() {
        FieldMember x = with(FACE, NONE, ABSTRACT_CLASS, NONE, CLASS, 1, FINAL_CLASS, 2, ABSTRACT_CLASS, 2);
        x.face(1, 0);
        make(x, 1, 0, VOID, ABSTRACT, false);
        x.field(1, 0, INT, 0, 0);
        make(x, 0, 1, VOID, 0, false);
        make(x, 1, 2, VOID, ABSTRACT, false, INT, 0);
        return x;
    }

    /** "The i-th": from 0, by ENTRIES; behind the last one, and before the first, NONE. */
    static void promise18_byNumber() {
        for (int type = 2; type <= 3; type++) {
            FieldMember x = scene();
            due(x.lacks(type, 0), 0);
            due(x.lacks(type, 1), 2);
            due(x.lacks(type, 2), 3);
            due(x.lacks(type, 3), NONE);
            due(x.lacks(type, -1), NONE);
            due(x.lacks(type, MIN), NONE);
            due(x.lacks(type, MAX), NONE);
            due(x.lacks(type, 0), 0);
        }
    }

    /** "NONE (of ABSTRACT ones, FACES, too)". */
    static void promise18_notOfAbstractOnesAndFaces() {
        FieldMember x = scene();
        for (int type : new int[] {0, 1, 4}) {
            for (int i = -1; i <= 3; i++) {
                due(x.lacks(type, i), NONE);
            }
        }
    }

    /** Nothing is lacking where there is nothing: no ENTRY, no abstract one. */
    static void promise18_nothing() {
        answers(() -> with(CLASS, NONE), NONE, x -> x.lacks(0, 0));
        FieldMember x = with(FINAL_CLASS, NONE);
        make(x, 0, 0, VOID, NATIVE, false);
        make(x, 0, 1, VOID, 0, true);
        make(x, 0, 2, VOID, STATIC, true);
        x.field(0, 0, INT, 0, 0);
        due(x.lacks(0, 0), NONE);
    }

    /** Asking changes nothing, also while a MEMBER is begun; that one fills nothing yet. */
    static void promise18_changesNothing() {
        refused(Promise18LacksTest::scene, 0, x -> x.lacks(2, 0));
        FieldMember x = scene();
        x.member(2, 0, VOID, 0, 0, true);
        due(x.lacks(2, 0), 0);
        due(x.end(), 4);
        due(x.lacks(2, 0), 2);
    }

    /** "abstract, of TYPES that it is BELOW": not of others. */
    static void promise18_onlyAbove() {
        FieldMember x = with(ABSTRACT_CLASS, NONE, CLASS, NONE, FACE, NONE, CLASS, 0);
        make(x, 0, 0, VOID, ABSTRACT, false);
        make(x, 2, 1, VOID, 0, false);
        due(x.lacks(1, 0), NONE);
        due(x.lacks(3, 0), 0);
        due(x.lacks(3, 1), NONE);
    }

    /** FACES 0 and 1, a class 2, a class 3 BELOW all of them, a class 4 by itself; FACE 0's NAME 0 is lacking in 3. */
    private static FieldMember aside() {
        FieldMember x = with(FACE, NONE, FACE, NONE, ABSTRACT_CLASS, NONE, CLASS, 2, CLASS, NONE);
        due(x.face(3, 0), 1);
        due(x.face(3, 1), 2);
        due(make(x, 0, 0, VOID, 0, false, INT, 0), 0);
        return x;
    }

    private static void fills(boolean fills, int type, int name, int marks, boolean body, int... parameters) {
        FieldMember x = aside();
        due(x.lacks(3, 0), 0);
        due(make(x, type, name, VOID, marks, body, parameters), 1);
        due(x.lacks(3, 0), fills ? NONE : 0);
        due(x.lacks(4, 0), NONE);
    }

    /** "none that has a BODY or is native": its own or of a PARENT, which knows nothing of the FACE. */
    static void promise18_bodyOrNative() {
        fills(true, 3, 0, PUBLIC, true, INT, 0);
        fills(true, 3, 0, PUBLIC | NATIVE, false, INT, 0);
        fills(true, 2, 0, 0, true, INT, 0);
        fills(true, 2, 0, NATIVE, false, INT, 0);
        fills(false, 2, 0, ABSTRACT, false, INT, 0);
    }

    /** "not static". */
    static void promise18_notStatic() {
        fills(false, 2, 0, STATIC, true, INT, 0);
        fills(false, 2, 0, STATIC | NATIVE, false, INT, 0);
    }

    /** "not private": though it stands in the class itself. */
    static void promise18_notPrivate() {
        fills(false, 2, 0, PRIVATE, true, INT, 0);
        fills(false, 3, 0, PRIVATE, true, INT, 0);
        fills(false, 3, 0, PRIVATE | NATIVE, false, INT, 0);
    }

    /** "of a class that it is BELOW": not of one aside. */
    static void promise18_ofAClassAbove() {
        fills(false, 4, 0, PUBLIC, true, INT, 0);
    }

    /** "or default of a FACE that it is BELOW": not abstract, static or private ones of a FACE. */
    static void promise18_defaultOfAFace() {
        fills(true, 1, 0, DEFAULT, true, INT, 0);
        fills(false, 1, 0, 0, false, INT, 0);
        fills(false, 1, 0, STATIC, true, INT, 0);
        fills(false, 1, 0, PRIVATE, true, INT, 0);
        fills(false, 1, 0, PRIVATE | STATIC, true, INT, 0);
        FieldMember x = with(FACE, NONE, FACE, NONE, CLASS, NONE);
        x.face(2, 0);
        make(x, 0, 0, VOID, 0, false);
        make(x, 1, 0, VOID, DEFAULT, true);
        due(x.lacks(2, 0), 0);
    }

    /** "has the same NAME and PARAMETERS"; VARIED or the result mean nothing. */
    static void promise18_sameNameAndParameters() {
        fills(false, 2, 1, 0, true, INT, 0);
        fills(false, 2, 0, 0, true);
        fills(false, 2, 0, 0, true, LONG, 0);
        fills(false, 2, 0, 0, true, INT, 1);
        fills(false, 2, 0, 0, true, INT, 0, INT, 0);
        FieldMember x = with(FACE, NONE, CLASS, NONE, CLASS, 1);
        x.face(2, 0);
        make(x, 0, 0, VOID, 0, false, INT, 1);
        due(x.lacks(2, 0), 0);
        x.member(1, 0, T, 2, 0, true);
        x.parameter(INT, 1, true);
        x.end();
        due(x.lacks(2, 0), NONE);
    }

    /** One with a BODY far above fills what is abstract again in between. */
    static void promise18_fromFarAbove() {
        FieldMember x = with(CLASS, NONE, ABSTRACT_CLASS, 0, CLASS, 1);
        make(x, 0, 0, VOID, 0, true);
        make(x, 1, 0, VOID, ABSTRACT, false);
        due(x.lacks(2, 0), NONE);
        FieldMember y = with(FACE, NONE, FACE, NONE, CLASS, NONE);
        y.face(1, 0);
        y.face(2, 1);
        make(y, 0, 0, VOID, DEFAULT, true);
        make(y, 1, 0, VOID, 0, false);
        due(y.lacks(2, 0), NONE);
    }

    /** Two that are alike are both lacking; one that fills them fills both. */
    static void promise18_alike() {
        FieldMember x = with(FACE, NONE, FACE, NONE, CLASS, NONE);
        x.face(2, 0);
        x.face(2, 1);
        make(x, 0, 0, VOID, 0, false);
        make(x, 1, 0, VOID, 0, false);
        due(x.lacks(2, 0), 0);
        due(x.lacks(2, 1), 1);
        due(x.lacks(2, 2), NONE);
        make(x, 2, 0, VOID, PUBLIC, true);
        due(x.lacks(2, 0), NONE);
    }

    /** What fills one class does not fill those above it, and does those BELOW it. */
    static void promise18_eachTypeByItself() {
        FieldMember x = with(ABSTRACT_CLASS, NONE, CLASS, 0, CLASS, 1, CLASS, 2);
        make(x, 0, 0, VOID, ABSTRACT, false);
        make(x, 2, 0, VOID, 0, true);
        due(x.lacks(1, 0), 0);
        due(x.lacks(2, 0), NONE);
        due(x.lacks(3, 0), NONE);
    }

    /** Sixty that are lacking: the last is the 59th, then NONE. */
    static void promise18_sixty() {
        FieldMember x = with(FACE, NONE, CLASS, NONE);
        x.face(1, 0);
        for (int e = 0; e < 60; e++) {
            int made = e < 50 ? make(x, 0, e, VOID, 0, false) : make(x, 0, e - 50, VOID, 0, false, INT, 0);
            due(made, e);
        }
        for (int i : new int[] {0, 1, 49, 50, 59}) {
            due(x.lacks(1, i), i);
        }
        due(x.lacks(1, 60), NONE);
        due(x.lacks(0, 0), NONE);
    }

    static void promise18_inOneRun() {
        FieldMember x = with(FACE, NONE, FACE, NONE, ABSTRACT_CLASS, NONE, CLASS, 2, FINAL_CLASS, 3, ABSTRACT_CLASS, 3);
        x.face(2, 0);
        x.face(3, 1);
        due(x.lacks(6, 0), UNKNOWN);
        due(x.lacks(-1, 0), UNKNOWN);
        due(x.lacks(3, 0), NONE);
        due(make(x, 1, 0, VOID, 0, false), 0);
        due(make(x, 2, 1, VOID, ABSTRACT, false), 1);
        due(make(x, 0, 2, VOID, 0, false), 2);
        due(make(x, 0, 0, VOID, 0, false), 3);
        for (int t = 3; t <= 4; t++) {
            for (int i = 0; i < 4; i++) {
                due(x.lacks(t, i), i);
            }
            due(x.lacks(t, 4), NONE);
            due(x.lacks(t, -1), NONE);
            due(x.lacks(t, MIN), NONE);
            due(x.lacks(t, MAX), NONE);
        }
        due(x.lacks(0, 0), NONE);
        due(x.lacks(2, 0), NONE);
        due(x.lacks(5, 0), NONE);
        // Other PARAMETERS, private or static ones do not fill.
        due(make(x, 3, 1, VOID, 0, true, INT, 0), 4);
        due(x.lacks(3, 1), 1);
        due(make(x, 4, 0, VOID, PRIVATE, true), 5);
        due(x.lacks(4, 0), 0);
        due(make(x, 3, 0, VOID, PUBLIC | NATIVE, false), 6);
        due(x.lacks(3, 0), 1);
        due(x.lacks(3, 1), 2);
        due(x.lacks(3, 2), NONE);
        due(x.lacks(4, 0), 1);
        due(make(x, 4, 1, VOID, 0, true), 7);
        due(x.lacks(4, 0), 2);
        due(x.lacks(3, 0), 1);
        due(make(x, 1, 2, VOID, DEFAULT, true), 8);
        due(x.lacks(4, 0), NONE);
        due(x.lacks(3, 0), 1);
        due(x.lacks(3, 1), NONE);
    }

    static void promise18_filledFromAside() {
        // A PARENT that knows nothing of the FACE fills it; static ones of a FACE and of a class do not.
        FieldMember x = with(FACE, NONE, FACE, NONE, CLASS, NONE, CLASS, 2, CLASS, NONE);
        due(x.face(3, 0), 1);
        due(x.face(3, 1), 2);
        due(make(x, 0, 0, VOID, 0, false), 0);
        due(x.lacks(3, 0), 0);
        due(make(x, 1, 0, VOID, STATIC, true), 1);
        due(x.lacks(3, 0), 0);
        due(make(x, 4, 0, VOID, PUBLIC, true), 2);
        due(x.lacks(3, 0), 0);
        due(make(x, 2, 0, LONG, 0, true), 3);
        due(x.lacks(3, 0), NONE);
        due(make(x, 0, 1, VOID, 0, false), 4);
        due(make(x, 2, 1, VOID, STATIC, true), 5);
        due(x.lacks(3, 0), 4);
        due(make(x, 1, 1, VOID, PRIVATE, true), 6);
        due(x.lacks(3, 0), 4);
        // One with a BODY far above fills what is abstract in between.
        FieldMember y = with(CLASS, NONE, ABSTRACT_CLASS, 0, CLASS, 1);
        due(make(y, 0, 0, VOID, 0, true), 0);
        due(make(y, 1, 0, VOID, ABSTRACT, false), 1);
        due(y.lacks(2, 0), NONE);
        // What is not abstract, or of a TYPE that it is not BELOW, is not lacking.
        FieldMember z = with(ABSTRACT_CLASS, NONE, CLASS, NONE);
        due(make(z, 0, 0, VOID, ABSTRACT, false), 0);
        due(make(z, 1, 1, VOID, PRIVATE, true), 1);
        due(make(z, 1, 2, VOID, STATIC, true), 2);
        due(z.field(1, 3, INT, 0, 0), 3);
        due(z.lacks(1, 0), NONE);
    }
}
