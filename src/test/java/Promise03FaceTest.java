public final class Promise03FaceTest extends PromiseTest {
    public static void main(String[] args) {
        run(Promise03FaceTest.class);
    }

    /** Four FACES, a class, an ABSTRACT and a FINAL one, a FACE after them. */
    private static FieldMember faces() {
        return with(FACE, NONE, FACE, NONE, FACE, NONE, FACE, NONE, CLASS, NONE, ABSTRACT_CLASS, NONE, FINAL_CLASS, 4, FACE, NONE);
    }

    private static FieldMember threeFaces() {
        FieldMember x = faces();
        x.face(4, 0);
        x.face(4, 1);
        x.face(4, 2);
        return x;
    }

    /** "A TYPE gets a FACE: how many", of every SORT; "up to 3": the third comes, the fourth does not. */
    static void promise3_upToThree() {
        for (int t = 4; t <= 7; t++) {
            FieldMember x = faces();
            due(x.face(t, 3), 1);
            due(x.face(t, 0), 2);
            due(x.face(t, 2), 3);
            due(x.face(t, 1), FULL);
            due(x.below(t, 1), 0);
            due(x.below(t, 2), 1);
        }
        refused(Promise03FaceTest::threeFaces, FULL, x -> x.face(4, 3));
    }

    /** "UNKNOWN: no such TYPE". */
    static void promise3_unknownType() {
        for (int type : new int[] {-1, 8, 9, 12, MIN, MAX}) {
            refused(Promise03FaceTest::faces, UNKNOWN, x -> x.face(type, 0));
        }
    }

    /** "or that is no FACE": it is not there, or is a class of one of the three SORTS. */
    static void promise3_unknownFace() {
        for (int face : new int[] {-1, 8, 12, MIN, MAX, 4, 5, 6}) {
            refused(Promise03FaceTest::faces, UNKNOWN, x -> x.face(7, face));
        }
    }

    /** "OUTSIDE: it is not an earlier one": the one just before is, itself and the next one are not. */
    static void promise3_earlierOnes() {
        answers(Promise03FaceTest::faces, 1, x -> x.face(3, 2));
        answers(Promise03FaceTest::faces, 1, x -> x.face(4, 3));
        answers(Promise03FaceTest::faces, 1, x -> x.face(7, 0));
        refused(Promise03FaceTest::faces, OUTSIDE, x -> x.face(2, 2));
        refused(Promise03FaceTest::faces, OUTSIDE, x -> x.face(2, 3));
        refused(Promise03FaceTest::faces, OUTSIDE, x -> x.face(0, 0));
        refused(Promise03FaceTest::faces, OUTSIDE, x -> x.face(6, 7));
        refused(Promise03FaceTest::faces, OUTSIDE, x -> x.face(7, 7));
    }

    /** UNKNOWN comes before OUTSIDE: a class that is itself or later is no FACE. */
    static void promise3_unknownBeforeOutside() {
        refused(Promise03FaceTest::faces, UNKNOWN, x -> x.face(4, 4));
        refused(Promise03FaceTest::faces, UNKNOWN, x -> x.face(4, 5));
        refused(Promise03FaceTest::faces, UNKNOWN, x -> x.face(0, 6));
        refused(Promise03FaceTest::faces, UNKNOWN, x -> x.face(0, 8));
        refused(Promise03FaceTest::faces, UNKNOWN, x -> x.face(-1, 0));
    }

    /** "STATE: it has it" ("each once"); one that comes through PARENT or another FACE it has not itself. */
    static void promise3_eachOnce() {
        refused(Promise03FaceTest::threeFaces, STATE, x -> x.face(4, 0));
        refused(Promise03FaceTest::threeFaces, STATE, x -> x.face(4, 2));
        answers(Promise03FaceTest::threeFaces, 1, x -> x.face(6, 0));
        FieldMember x = faces();
        due(x.face(1, 0), 1);
        due(x.face(5, 1), 1);
        due(x.face(5, 0), 2);
        due(x.face(5, 1), STATE);
    }

    /** "there is some ENTRY": a FIELD or a MEMBER, of any TYPE; one that broke a RULE is none. */
    static void promise3_notWithEntries() {
        refused(PromiseTest::furnished, STATE, x -> x.face(5, 0));
        FieldMember x = faces();
        due(x.field(4, 0, VOID, 0, 0), rule(5));
        due(x.field(4, 50, INT, 0, 0), OUTSIDE);
        due(x.face(5, 0), 1);
        due(x.field(7, 0, INT, 0, 0), 0);
        due(x.face(5, 1), STATE);
        FieldMember y = faces();
        due(make(y, 4, 0, INT, 0, true), 0);
        due(y.face(5, 1), STATE);
        due(y.clear(), 1);
        y.type(FACE, NONE);
        y.type(CLASS, NONE);
        due(y.face(1, 0), 1);
    }

    /** "a MEMBER is begun": with no ENTRY yet; if it breaks a RULE and is gone, FACES may come again. */
    static void promise3_notWhileAMemberIsBegun() {
        Scene scene = () -> {
            FieldMember x = faces();
            x.member(4, 0, VOID, 0, 0, true);
            return x;
        };
        refused(scene, STATE, x -> x.face(5, 0));
        refused(PromiseTest::begun, STATE, x -> x.face(5, 0));
        FieldMember x = faces();
        due(x.member(4, 0, VOID, 0, 0, false), rule(17));
        due(x.face(5, 0), 1);
    }

    /** OUTSIDE and UNKNOWN come before STATE. */
    static void promise3_refusalsBeforeState() {
        refused(PromiseTest::furnished, OUTSIDE, x -> x.face(0, 1));
        refused(PromiseTest::furnished, OUTSIDE, x -> x.face(1, 1));
        refused(PromiseTest::begun, OUTSIDE, x -> x.face(0, 0));
        refused(PromiseTest::furnished, UNKNOWN, x -> x.face(6, 0));
        refused(PromiseTest::begun, UNKNOWN, x -> x.face(5, 3));
        refused(PromiseTest::begun, UNKNOWN, x -> x.face(3, 6));
    }

    /** STATE comes before FULL: one that it has already, an ENTRY, one that is begun. */
    static void promise3_stateBeforeFull() {
        refused(Promise03FaceTest::threeFaces, STATE, x -> x.face(4, 1));
        Scene withEntry = () -> {
            FieldMember x = threeFaces();
            x.field(0, 0, INT, 0, 0);
            return x;
        };
        Scene withBegun = () -> {
            FieldMember x = threeFaces();
            x.member(0, 0, INT, 0, 0, false);
            return x;
        };
        refused(withEntry, STATE, x -> x.face(4, 3));
        refused(withBegun, STATE, x -> x.face(4, 3));
        refused(Promise03FaceTest::threeFaces, OUTSIDE, x -> x.face(4, 7));
        refused(Promise03FaceTest::threeFaces, UNKNOWN, x -> x.face(4, 8));
    }

    /** Each TYPE has its own three: one that is full does not fill others. */
    static void promise3_threeOfEach() {
        FieldMember x = threeFaces();
        due(x.face(5, 0), 1);
        due(x.face(3, 0), 1);
        due(x.face(3, 1), 2);
        due(x.face(3, 2), 3);
        due(x.face(4, 3), FULL);
        due(x.type(CLASS, 4), 8);
        due(x.face(8, 7), 1);
        due(x.face(8, 3), 2);
    }

    static void promise3_inOneRun() {
        FieldMember x = with(FACE, NONE, FACE, NONE, FACE, NONE, FACE, NONE, CLASS, NONE, CLASS, 4, FACE, NONE);
        due(x.face(7, 0), UNKNOWN);
        due(x.face(-1, 0), UNKNOWN);
        due(x.face(4, 7), UNKNOWN);
        due(x.face(4, -1), UNKNOWN);
        due(x.face(5, 4), UNKNOWN);
        due(x.face(3, 4), UNKNOWN);
        due(x.face(4, 4), UNKNOWN);
        due(x.face(4, 6), OUTSIDE);
        due(x.face(1, 1), OUTSIDE);
        due(x.face(0, 1), OUTSIDE);
        due(x.face(4, 2), 1);
        due(x.face(4, 2), STATE);
        due(x.face(4, 0), 2);
        due(x.face(4, 3), 3);
        due(x.face(4, 0), STATE);
        due(x.face(4, 1), FULL);
        due(x.face(5, 0), 1);
        due(x.face(6, 5), UNKNOWN);
        due(x.face(6, 0), 1);
        due(x.face(6, 1), 2);
        due(x.face(6, 2), 3);
        due(x.face(6, 3), FULL);
        x.member(4, 0, VOID, 0, 0, true);
        due(x.face(5, 1), STATE);
        due(x.face(6, 3), STATE);
        due(x.face(0, 1), OUTSIDE);
        due(x.face(9, 1), UNKNOWN);
        make(x, 0, 0, VOID, 0, false);
        x.end();
        due(x.count(1), 1);
        due(x.face(5, 1), STATE);
        FieldMember y = with(FACE, NONE, CLASS, NONE);
        y.member(1, 0, VOID, 0, 0, false);
        due(y.face(1, 0), 1);
        FieldMember z = with(FACE, NONE, CLASS, NONE);
        z.field(1, 0, INT, 0, 0);
        due(z.face(1, 0), STATE);
    }
}
