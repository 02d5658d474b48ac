public final class Promise14SoughtTest extends PromiseTest {
    public static void main(String[] args) {
        run(Promise14SoughtTest.class);
    }

    /** "UNKNOWN". */
    static void promise14_unknown() {
        for (int type : new int[] {-1, 6, 12, MIN, MAX}) {
            refused(PromiseTest::furnished, UNKNOWN, x -> x.sought(type, 0));
        }
        refused(PromiseTest::fullOfTypes, UNKNOWN, x -> x.sought(12, 0));
        answers(PromiseTest::fullOfTypes, NONE, x -> x.sought(11, 0));
    }

    /** "OUTSIDE": NAMES 0 .. 49. */
    static void promise14_outside() {
        for (int name : new int[] {-1, 50, MIN, MAX}) {
            refused(PromiseTest::furnished, OUTSIDE, x -> x.sought(0, name));
        }
        answers(PromiseTest::furnished, 0, x -> x.sought(0, 0));
        answers(PromiseTest::furnished, NONE, x -> x.sought(0, 49));
        FieldMember x = with(CLASS, NONE);
        x.field(0, 49, INT, 0, 0);
        due(x.sought(0, 49), 0);
    }

    /** UNKNOWN comes before OUTSIDE. */
    static void promise14_unknownBeforeOutside() {
        refused(PromiseTest::furnished, UNKNOWN, x -> x.sought(6, 50));
        refused(PromiseTest::furnished, UNKNOWN, x -> x.sought(-1, -1));
    }

    /** Asking changes nothing, also while a MEMBER is begun. */
    static void promise14_changesNothing() {
        refused(PromiseTest::begun, 0, x -> x.sought(1, 0));
        refused(PromiseTest::begun, CLASH, x -> x.sought(3, 0));
        refused(PromiseTest::begun, NONE, x -> x.sought(5, 0));
    }

    /** "NONE": no such FIELD; a MEMBER of the NAME is none, a FIELD BELOW or aside is none. */
    static void promise14_none() {
        FieldMember x = with(CLASS, NONE, CLASS, 0, CLASS, 0);
        due(x.sought(0, 0), NONE);
        make(x, 0, 0, INT, 0, true);
        due(x.sought(0, 0), NONE);
        x.field(1, 0, INT, 0, 0);
        due(x.sought(0, 0), NONE);
        due(x.sought(2, 0), NONE);
        due(x.sought(1, 0), 1);
        due(x.sought(1, 1), NONE);
    }

    /** "its own": before all that is above, private too, and though there would be a CLASH. */
    static void promise14_itsOwn() {
        FieldMember x = with(FACE, NONE, FACE, NONE, CLASS, NONE);
        x.face(2, 0);
        x.face(2, 1);
        x.field(0, 0, INT, 0, 0);
        x.field(1, 0, INT, 0, 0);
        due(x.sought(2, 0), CLASH);
        x.field(2, 0, INT, 0, PRIVATE);
        due(x.sought(2, 0), 2);
        due(x.sought(0, 0), 0);
        due(x.sought(1, 0), 1);
    }

    /** "in its PARENT", however far above. */
    static void promise14_farAbove() {
        FieldMember x = with(CLASS, NONE);
        FieldMember y = with(FACE, NONE);
        for (int t = 1; t < 12; t++) {
            x.type(CLASS, t - 1);
            y.type(t == 11 ? CLASS : FACE, NONE);
            y.face(t, t - 1);
        }
        x.field(0, 7, INT, 0, 0);
        y.field(0, 7, INT, 0, 0);
        for (int t = 0; t < 12; t++) {
            due(x.sought(t, 7), 0);
            due(y.sought(t, 7), 0);
        }
        // The nearest one hides those above it.
        x.field(6, 7, INT, 0, 0);
        due(x.sought(5, 7), 0);
        due(x.sought(11, 7), 1);
    }

    /** "(not private)": one that is private in the PARENT is not found from below; others are. */
    static void promise14_notPrivate() {
        for (int marks : new int[] {0, PROTECTED, PUBLIC, PRIVATE}) {
            FieldMember x = with(CLASS, NONE, CLASS, 0, CLASS, 1);
            x.field(0, 0, INT, 0, marks);
            due(x.sought(0, 0), 0);
            due(x.sought(1, 0), marks == PRIVATE ? NONE : 0);
            due(x.sought(2, 0), marks == PRIVATE ? NONE : 0);
        }
    }

    /** What the PARENT finds is its private one: that is not found, and what is above it neither. */
    static void promise14_privateHides() {
        FieldMember x = with(FACE, NONE, CLASS, NONE, CLASS, 1, CLASS, 2);
        x.face(3, 0);
        x.field(1, 0, INT, 0, 0);
        x.field(2, 0, INT, 0, PRIVATE);
        due(x.sought(2, 0), 1);
        due(x.sought(3, 0), NONE);
        x.field(0, 0, INT, 0, 0);
        due(x.sought(3, 0), 2);
    }

    /** "if they are one and the same ENTRY, that one": on two, three, four ways. */
    static void promise14_sameOnSeveralWays() {
        FieldMember x = with(FACE, NONE, FACE, NONE, FACE, NONE, FACE, NONE, CLASS, NONE, CLASS, 4);
        x.face(1, 0);
        x.face(2, 0);
        x.face(3, 0);
        x.face(4, 0);
        x.face(5, 1);
        x.face(5, 2);
        x.face(5, 3);
        x.field(0, 0, INT, 0, 0);
        due(x.sought(5, 0), 0);
        // One that differs is enough for a CLASH, on whichever way.
        for (int t = 1; t <= 4; t++) {
            x.field(t, t, INT, 0, 0);
            x.field(0, t, INT, 0, 0);
            due(x.sought(5, t), CLASH);
        }
    }

    /** "CLASH, if they are several": PARENT and FACE, two FACES, each two of three. */
    static void promise14_several() {
        for (int first = 0; first < 3; first++) {
            for (int second = first + 1; second < 4; second++) {
                FieldMember x = with(FACE, NONE, FACE, NONE, FACE, NONE, CLASS, NONE, CLASS, 3);
                x.face(4, 0);
                x.face(4, 1);
                x.face(4, 2);
                x.field(first, 0, INT, 0, 0);
                due(x.sought(4, 0), 0);
                x.field(second, 0, INT, 0, 0);
                due(x.sought(4, 0), CLASH);
            }
        }
    }

    /** "(also if one of these is a CLASH)": alone, with nothing else, with another ENTRY, with another CLASH. */
    static void promise14_clashAbove() {
        FieldMember x = with(FACE, NONE, FACE, NONE, FACE, NONE, FACE, NONE, CLASS, NONE, CLASS, 4, CLASS, NONE, FACE, NONE);
        x.face(2, 0);
        x.face(2, 1);
        x.face(4, 0);
        x.face(4, 1);
        x.face(5, 3);
        x.face(6, 2);
        x.face(6, 3);
        x.face(7, 3);
        x.face(7, 2);
        x.field(0, 0, INT, 0, 0);
        x.field(1, 0, INT, 0, 0);
        due(x.sought(2, 0), CLASH);
        due(x.sought(4, 0), CLASH);
        due(x.sought(5, 0), CLASH);
        due(x.sought(6, 0), CLASH);
        due(x.sought(7, 0), CLASH);
        x.field(3, 0, INT, 0, 0);
        due(x.sought(5, 0), CLASH);
        due(x.sought(6, 0), CLASH);
        due(x.sought(7, 0), CLASH);
        x.field(4, 0, INT, 0, PRIVATE);
        due(x.sought(5, 0), 2);
        FieldMember y = with(FACE, NONE, FACE, NONE, CLASS, NONE, FACE, NONE, CLASS, 2);
        y.face(2, 0);
        y.face(2, 1);
        y.face(3, 0);
        y.face(3, 1);
        y.face(4, 3);
        y.field(0, 0, INT, 0, 0);
        y.field(1, 0, INT, 0, 0);
        due(y.sought(4, 0), CLASH);
    }

    /** One NAME's answer does not linger for another, nor one TYPE's. */
    static void promise14_eachAnew() {
        FieldMember x = with(CLASS, NONE, CLASS, 0, CLASS, NONE);
        x.field(0, 0, INT, 0, 0);
        due(x.sought(1, 0), 0);
        due(x.sought(1, 1), NONE);
        due(x.sought(2, 0), NONE);
        due(x.sought(1, 0), 0);
    }

    static void promise14_inOneRun() {
        FieldMember x = with(FACE, NONE, FACE, NONE, FACE, NONE, CLASS, NONE, CLASS, 3, CLASS, 4);
        x.face(1, 0);
        x.face(2, 0);
        x.face(3, 0);
        x.face(4, 1);
        x.face(5, 2);
        due(x.sought(6, 50), UNKNOWN);
        due(x.sought(-1, 0), UNKNOWN);
        due(x.sought(0, 50), OUTSIDE);
        due(x.sought(0, -1), OUTSIDE);
        due(x.sought(5, 0), NONE);
        due(x.field(0, 0, INT, 0, 0), 0);
        for (int t = 0; t < 6; t++) {
            due(x.sought(t, 0), 0);
        }
        due(x.field(1, 0, INT, 0, 0), 1);
        due(x.sought(1, 0), 1);
        due(x.sought(2, 0), 0);
        due(x.sought(3, 0), 0);
        due(x.sought(4, 0), CLASH);
        due(x.sought(5, 0), CLASH);
        due(x.field(5, 0, INT, 0, PRIVATE), 2);
        due(x.sought(5, 0), 2);
        due(x.sought(4, 0), CLASH);
        due(make(x, 5, 1, VOID, 0, true), 3);
        due(x.sought(5, 1), NONE);
        due(x.field(2, 3, INT, 0, 0), 4);
        due(x.sought(5, 3), 4);
        due(x.sought(4, 3), NONE);
    }

    static void promise14_clashesInOneRun() {
        // A CLASH in a PARENT or a FACE stays one, with nothing else found and with another.
        FieldMember x = with(FACE, NONE, FACE, NONE, FACE, NONE, FACE, NONE, CLASS, NONE, CLASS, 4, CLASS, NONE);
        due(x.face(2, 0) + x.face(2, 1) + x.face(4, 2) + x.face(5, 3) + x.face(6, 3) + x.face(6, 2), 8);
        x.field(0, 0, INT, 0, 0);
        x.field(1, 0, INT, 0, 0);
        due(x.sought(2, 0), CLASH);
        due(x.sought(4, 0), CLASH);
        due(x.sought(5, 0), CLASH);
        due(x.sought(6, 0), CLASH);
        x.field(3, 0, INT, 0, 0);
        due(x.sought(3, 0), 2);
        due(x.sought(5, 0), CLASH);
        due(x.sought(6, 0), CLASH);
        due(x.field(4, 0, INT, 0, 0), 3);
        due(x.sought(4, 0), 3);
        due(x.sought(5, 0), CLASH);
    }

    static void promise14_privateOnesInOneRun() {
        FieldMember x = with(FACE, NONE, CLASS, NONE, CLASS, 1, CLASS, 2, CLASS, 3);
        x.face(3, 0);
        x.field(1, 0, INT, 0, PROTECTED);
        due(x.sought(4, 0), 0);
        x.field(2, 0, INT, 0, PRIVATE);
        due(x.sought(2, 0), 1);
        // The private one hides what is above it, and is not seen from below.
        due(x.sought(3, 0), NONE);
        due(x.sought(4, 0), NONE);
        x.field(0, 0, INT, 0, 0);
        due(x.sought(3, 0), 2);
        due(x.sought(4, 0), 2);
        x.field(1, 1, INT, 0, 0);
        due(x.sought(4, 1), 3);
        x.field(3, 1, INT, 0, PRIVATE);
        due(x.sought(3, 1), 4);
        due(x.sought(4, 1), NONE);
        FieldMember y = with(CLASS, NONE, CLASS, 0);
        y.field(0, 0, INT, 0, 0);
        y.field(0, 1, INT, 0, PRIVATE);
        due(y.sought(1, 0), 0);
        due(y.sought(1, 1), NONE);
    }
}
