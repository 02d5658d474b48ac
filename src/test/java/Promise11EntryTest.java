public final class Promise11EntryTest extends PromiseTest {
    public static void main(String[] args) {
        run(Promise11EntryTest.class);
    }

    private static void toldOf(FieldMember x, int entry, int... told) {
        for (int what = 0; what <= 5; what++) {
            due(x.entry(entry, what), told[what]);
        }
    }

    /** "0 whether it is a MEMBER (1, 0), 1 its TYPE, 2 NAME, 3 KIND, 4 DIMS, 5 MARKS", of FIELDS. */
    static void promise11_ofFields() {
        FieldMember x = furnished();
        toldOf(x, 0, 0, 0, 0, INT, 0, PUBLIC | STATIC | FINAL);
        toldOf(x, 1, 0, 3, 1, LONG, 0, FINAL | PRIVATE);
        toldOf(x, 2, 0, 2, 0, T + 4, 2, PUBLIC);
    }

    /** The same of MEMBERS: KIND and DIMS are the result's. */
    static void promise11_ofMembers() {
        FieldMember x = begun();
        toldOf(x, 3, 1, 1, 5, INT, 0, PUBLIC | ABSTRACT);
        toldOf(x, 4, 1, 2, 5, VOID, 0, PROTECTED);
        toldOf(x, 6, 1, 3, 6, T, 0, PRIVATE | STATIC);
        x.end();
        toldOf(x, 7, 1, 4, 7, T + 1, 1, PROTECTED | FINAL);
    }

    /** "(with those that it has in any case)". */
    static void promise11_marksInAnyCase() {
        FieldMember x = with(FACE, NONE);
        x.field(0, 0, INT, 0, STATIC);
        make(x, 0, 0, INT, 0, false);
        make(x, 0, 1, INT, DEFAULT, true);
        make(x, 0, 2, INT, PRIVATE, true);
        due(x.entry(0, 5), PUBLIC | STATIC | FINAL);
        due(x.entry(1, 5), PUBLIC | ABSTRACT);
        due(x.entry(2, 5), PUBLIC | DEFAULT);
        due(x.entry(3, 5), PRIVATE);
    }

    /** The largest numbers that may be told are told as they are. */
    static void promise11_largest() {
        FieldMember x = fullOfTypes();
        due(x.field(11, 49, T + 11, 3, PRIVATE | STATIC | FINAL | TRANSIENT), 0);
        toldOf(x, 0, 0, 11, 49, T + 11, 3, PRIVATE | STATIC | FINAL | TRANSIENT);
        FieldMember y = fullOfEntries();
        due(y.entry(59, 2), 29);
        due(y.entry(59, 1), 4);
    }

    /** "UNKNOWN": less than 0, the first that is not there, one that is begun. */
    static void promise11_unknown() {
        for (int entry : new int[] {-1, 7, 8, 59, 60, MIN, MAX}) {
            refused(PromiseTest::furnished, UNKNOWN, x -> x.entry(entry, 0));
        }
        refused(PromiseTest::begun, UNKNOWN, x -> x.entry(7, 0));
        refused(PromiseTest::fullOfEntries, UNKNOWN, x -> x.entry(60, 0));
    }

    /** "OUTSIDE": 0 to 5 are told, of FIELDS and MEMBERS. */
    static void promise11_outside() {
        for (int what : new int[] {-1, 6, 7, MIN, MAX}) {
            refused(PromiseTest::furnished, OUTSIDE, x -> x.entry(0, what));
            refused(PromiseTest::furnished, OUTSIDE, x -> x.entry(6, what));
        }
    }

    /** UNKNOWN comes before OUTSIDE. */
    static void promise11_unknownBeforeOutside() {
        refused(PromiseTest::furnished, UNKNOWN, x -> x.entry(7, 6));
        refused(PromiseTest::furnished, UNKNOWN, x -> x.entry(-1, -1));
        refused(PromiseTest::bare, UNKNOWN, x -> x.entry(0, 6));
    }

    static void promise11_inOneRun() {
        FieldMember x = with(CLASS, NONE, FACE, NONE);
        due(x.entry(0, 9), UNKNOWN);
        due(x.field(0, 49, T + 1, 3, PRIVATE | VOLATILE), 0);
        x.member(0, 48, T, 2, NATIVE | FINAL | PROTECTED, false);
        due(x.entry(1, 0), UNKNOWN);
        due(x.end(), 1);
        int[] ofField = {0, 0, 49, T + 1, 3, PRIVATE | VOLATILE};
        int[] ofMember = {1, 0, 48, T, 2, NATIVE | FINAL | PROTECTED};
        for (int what = 0; what <= 5; what++) {
            due(x.entry(0, what), ofField[what]);
            due(x.entry(1, what), ofMember[what]);
        }
        due(x.entry(0, 6), OUTSIDE);
        due(x.entry(1, -1), OUTSIDE);
        due(x.entry(2, -1), UNKNOWN);
        due(x.entry(-1, 0), UNKNOWN);
        int[][] told = {{0, PUBLIC | ABSTRACT}, {PUBLIC, PUBLIC | ABSTRACT}, {ABSTRACT, PUBLIC | ABSTRACT},
            {STATIC, STATIC | PUBLIC}, {DEFAULT, DEFAULT | PUBLIC}, {PRIVATE, PRIVATE}, {PRIVATE | STATIC, PRIVATE | STATIC}};
        for (int i = 0; i < told.length; i++) {
            int marks = told[i][0];
            due(make(x, 1, i, INT, marks, (marks & (STATIC | DEFAULT | PRIVATE)) != 0), 2 + i);
            due(x.entry(2 + i, 5), told[i][1]);
            due(x.entry(2 + i, 1), 1);
        }
        due(x.field(1, 9, INT, 0, 0), 9);
        due(x.entry(9, 5), PUBLIC | STATIC | FINAL);
        due(x.entry(9, 0), 0);
    }
}
