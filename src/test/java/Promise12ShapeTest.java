public final class Promise12ShapeTest extends PromiseTest {
    public static void main(String[] args) {
        run(Promise12ShapeTest.class);
    }

    /** "0 how many PARAMETERS": 0 to 5. */
    static void promise12_howManyParameters() {
        for (int many = 0; many <= 5; many++) {
            FieldMember x = with(CLASS, NONE);
            x.member(0, 0, INT, 0, 0, true);
            for (int i = 0; i < many; i++) {
                x.parameter(INT, 0, false);
            }
            due(x.end(), 0);
            due(x.shape(0, 0), many);
        }
    }

    /** "1 whether it is VARIED": an array at the end that is not told so is not. */
    static void promise12_varied() {
        FieldMember x = with(CLASS, NONE);
        make(x, 0, 0, INT, 0, true, INT, 1);
        makeVaried(x, 0, 1, INT, 1);
        makeVaried(x, 0, 2, INT, 0, INT, 0, INT, 0, INT, 0, INT, 3);
        make(x, 0, 3, INT, 0, true);
        due(x.shape(0, 1), 0);
        due(x.shape(1, 1), 1);
        due(x.shape(2, 1), 1);
        due(x.shape(3, 1), 0);
    }

    /** "2 whether it has a BODY". */
    static void promise12_body() {
        FieldMember x = with(ABSTRACT_CLASS, NONE, FACE, NONE);
        make(x, 0, 0, INT, 0, true);
        make(x, 0, 1, INT, NATIVE, false);
        make(x, 0, 2, INT, ABSTRACT, false);
        make(x, 1, 3, INT, 0, false);
        make(x, 1, 4, INT, DEFAULT, true);
        for (int e = 0; e < 5; e++) {
            due(x.shape(e, 2), e == 0 || e == 4 ? 1 : 0);
        }
    }

    /** "3 the least ENTRY that it MET": by number, not the nearest; ENTRY 0 is one. */
    static void promise12_leastMet() {
        FieldMember x = with(CLASS, NONE, CLASS, 0, CLASS, 1);
        make(x, 0, 0, INT, 0, true);
        make(x, 1, 0, INT, 0, true);
        make(x, 2, 0, INT, 0, true);
        due(x.shape(1, 3), 0);
        due(x.shape(2, 3), 0);
        FieldMember y = with(CLASS, NONE, CLASS, 0, CLASS, 1);
        y.field(0, 0, INT, 0, 0);
        make(y, 1, 0, INT, 0, true);
        make(y, 0, 0, INT, 0, true);
        make(y, 2, 0, INT, 0, true);
        due(y.shape(3, 3), 1);
    }

    /** "when it was ended": what comes above it later is not met, what it met stays so. */
    static void promise12_whenItWasEnded() {
        FieldMember x = with(CLASS, NONE, CLASS, 0);
        make(x, 1, 0, INT, 0, true);
        make(x, 0, 0, LONG, FINAL, true);
        due(x.shape(0, 3), NONE);
        due(x.shape(1, 3), NONE);
    }

    /** "(NONE)": a private one, one that meets only private ones, other PARAMETERS, other NAMES, itself. */
    static void promise12_noneMet() {
        FieldMember x = with(CLASS, NONE, CLASS, 0);
        make(x, 0, 0, INT, 0, true);
        make(x, 0, 1, INT, PRIVATE, true);
        due(make(x, 1, 0, INT, PRIVATE, true), 2);
        due(make(x, 1, 1, INT, 0, true), 3);
        due(make(x, 1, 0, INT, 0, true, INT, 0), 4);
        due(make(x, 1, 2, INT, 0, true), 5);
        for (int e = 0; e <= 5; e++) {
            due(x.shape(e, 3), NONE);
        }
    }

    /** "UNKNOWN". */
    static void promise12_unknown() {
        for (int entry : new int[] {-1, 7, 8, 59, 60, MIN, MAX}) {
            refused(PromiseTest::furnished, UNKNOWN, x -> x.shape(entry, 0));
        }
        refused(PromiseTest::begun, UNKNOWN, x -> x.shape(7, 0));
        refused(PromiseTest::fullOfEntries, UNKNOWN, x -> x.shape(60, 0));
    }

    /** "CAST": a FIELD. */
    static void promise12_cast() {
        for (int entry = 0; entry <= 2; entry++) {
            int field = entry;
            for (int what = 0; what <= 3; what++) {
                int asked = what;
                refused(PromiseTest::furnished, CAST, x -> x.shape(field, asked));
            }
        }
        refused(PromiseTest::fullOfEntries, CAST, x -> x.shape(59, 0));
    }

    /** "OUTSIDE": 0 to 3 are told. */
    static void promise12_outside() {
        for (int what : new int[] {-1, 4, 5, MIN, MAX}) {
            refused(PromiseTest::furnished, OUTSIDE, x -> x.shape(3, what));
            refused(PromiseTest::furnished, OUTSIDE, x -> x.shape(6, what));
        }
    }

    /** UNKNOWN before CAST, CAST before OUTSIDE. */
    static void promise12_orderOfRefusals() {
        refused(PromiseTest::furnished, UNKNOWN, x -> x.shape(7, 4));
        refused(PromiseTest::furnished, UNKNOWN, x -> x.shape(-1, -1));
        refused(PromiseTest::furnished, CAST, x -> x.shape(0, 4));
        refused(PromiseTest::furnished, CAST, x -> x.shape(2, -1));
    }

    static void promise12_inOneRun() {
        FieldMember x = with(CLASS, NONE, CLASS, 0);
        due(x.shape(0, 9), UNKNOWN);
        x.field(0, 0, INT, 0, 0);
        due(x.shape(0, 9), CAST);
        due(x.shape(0, 0), CAST);
        due(x.shape(1, 0), UNKNOWN);
        due(x.shape(-1, 0), UNKNOWN);
        due(make(x, 0, 0, INT, NATIVE, false), 1);
        due(makeVaried(x, 1, 0, INT, 0, INT, 1), 2);
        due(make(x, 1, 0, INT, 0, true), 3);
        int[][] shapes = {{0, 0, 0, NONE}, {2, 1, 1, NONE}, {0, 0, 1, 1}};
        for (int e = 1; e <= 3; e++) {
            for (int what = 0; what <= 3; what++) {
                due(x.shape(e, what), shapes[e - 1][what]);
            }
        }
        due(x.shape(1, 4), OUTSIDE);
        due(x.shape(1, -1), OUTSIDE);
        // What comes above it later was not met.
        due(make(x, 0, 0, LONG, FINAL, true, INT, 0, INT, 1), 4);
        due(x.shape(2, 3), NONE);
        FieldMember y = with(CLASS, NONE, CLASS, 0, CLASS, 1);
        make(y, 1, 0, INT, 0, true);
        make(y, 0, 0, INT, 0, true);
        due(make(y, 2, 0, INT, 0, true), 2);
        due(y.shape(2, 3), 0);
        due(y.shape(1, 3), NONE);
    }
}
