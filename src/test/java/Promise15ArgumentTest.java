public final class Promise15ArgumentTest extends PromiseTest {
    public static void main(String[] args) {
        run(Promise15ArgumentTest.class);
    }

    /** "how many", "FULL: 5": the fifth comes, the sixth does not. */
    static void promise15_fiveAreFull() {
        FieldMember x = bare();
        for (int i = 1; i <= 5; i++) {
            due(x.argument(INT, 0), i);
            due(x.count(4), i);
        }
        due(x.argument(INT, 0), FULL);
        due(x.argument(LINK, 0), FULL);
        due(x.count(4), 5);
        refused(PromiseTest::fullOfArguments, FULL, y -> y.argument(INT, 0));
        refused(PromiseTest::fullOfArguments, FULL, y -> y.argument(T + 5, 3));
    }

    /** What a sixth one was refused for is the same five arguments. */
    static void promise15_sixthChangesNone() {
        FieldMember x = with(CLASS, NONE);
        make(x, 0, 0, INT, 0, true, INT, 0, LONG, 1, T, 0, CHAR, 0, BYTE, 0);
        x.argument(INT, 0);
        x.argument(LONG, 1);
        x.argument(T, 0);
        x.argument(CHAR, 0);
        x.argument(BYTE, 0);
        due(x.argument(DOUBLE, 0), FULL);
        due(x.call(0, 0), 0);
    }

    /** "UNKNOWN: the TYPE of the KIND". */
    static void promise15_unknown() {
        answers(PromiseTest::furnished, 3, x -> x.argument(T, 0));
        answers(PromiseTest::furnished, 3, x -> x.argument(T + 5, 0));
        for (int kind : new int[] {T + 6, T + 11, T + 12, MAX}) {
            refused(PromiseTest::furnished, UNKNOWN, x -> x.argument(kind, 0));
        }
        refused(PromiseTest::bare, UNKNOWN, x -> x.argument(T, 0));
        answers(PromiseTest::fullOfTypes, 1, x -> x.argument(T + 11, 3));
        refused(PromiseTest::fullOfTypes, UNKNOWN, x -> x.argument(T + 12, 3));
    }

    /** "OUTSIDE (VOID": with whatever DIMS; KINDS 1 .. 9 may be, less than 0 not. */
    static void promise15_kinds() {
        for (int kind = BOOLEAN; kind <= LINK; kind++) {
            int allowed = kind;
            answers(PromiseTest::furnished, 3, x -> x.argument(allowed, 0));
        }
        for (int kind : new int[] {VOID, -1, MIN}) {
            for (int dims = 0; dims <= 3; dims++) {
                int levels = dims;
                refused(PromiseTest::furnished, OUTSIDE, x -> x.argument(kind, levels));
            }
        }
    }

    /** DIMS 0 .. 3. */
    static void promise15_dims() {
        for (int kind : new int[] {BOOLEAN, DOUBLE, T, T + 5}) {
            answers(PromiseTest::furnished, 3, x -> x.argument(kind, 0));
            answers(PromiseTest::furnished, 3, x -> x.argument(kind, 3));
            for (int dims : new int[] {-1, 4, MIN, MAX}) {
                refused(PromiseTest::furnished, OUTSIDE, x -> x.argument(kind, dims));
            }
        }
    }

    /** "9 with DIMS)". */
    static void promise15_linkWithDims() {
        answers(PromiseTest::furnished, 3, x -> x.argument(LINK, 0));
        for (int dims : new int[] {-1, 1, 2, 3, 4}) {
            refused(PromiseTest::furnished, OUTSIDE, x -> x.argument(LINK, dims));
        }
    }

    /** UNKNOWN before OUTSIDE, both before FULL. */
    static void promise15_orderOfRefusals() {
        refused(PromiseTest::furnished, UNKNOWN, x -> x.argument(T + 6, 4));
        refused(PromiseTest::furnished, UNKNOWN, x -> x.argument(T + 6, -1));
        refused(PromiseTest::fullOfArguments, UNKNOWN, x -> x.argument(T + 6, 0));
        refused(PromiseTest::fullOfArguments, OUTSIDE, x -> x.argument(VOID, 0));
        refused(PromiseTest::fullOfArguments, OUTSIDE, x -> x.argument(LINK, 1));
        refused(PromiseTest::fullOfArguments, OUTSIDE, x -> x.argument(INT, 4));
    }

    /** At any time: while a MEMBER is begun they are no PARAMETERS. */
    static void promise15_whileAMemberIsBegun() {
        FieldMember x = begun();
        due(x.argument(INT, 0), 3);
        due(x.count(3), 2);
        due(x.count(4), 3);
        due(x.parameter(INT, 0, false), 3);
        due(x.count(4), 3);
        FieldMember y = fullOfParameters();
        due(y.argument(INT, 0), 3);
    }

    /** "of the next CALL": after it they are counted from 1 again. */
    static void promise15_anewAfterACall() {
        FieldMember x = fullOfArguments();
        due(x.call(5, 0), NONE);
        due(x.count(4), 0);
        due(x.argument(INT, 0), 1);
    }

    static void promise15_inOneRun() {
        FieldMember x = with(CLASS, NONE);
        due(x.argument(T + 1, 9), UNKNOWN);
        due(x.argument(MAX, 0), UNKNOWN);
        due(x.argument(VOID, 0), OUTSIDE);
        due(x.argument(VOID, 1), OUTSIDE);
        due(x.argument(-1, 0), OUTSIDE);
        due(x.argument(MIN, 0), OUTSIDE);
        due(x.argument(LINK, 1), OUTSIDE);
        due(x.argument(INT, 4), OUTSIDE);
        due(x.argument(INT, -1), OUTSIDE);
        due(x.count(4), 0);
        due(x.argument(LINK, 0), 1);
        due(x.argument(BOOLEAN, 3), 2);
        due(x.argument(T, 0), 3);
        x.member(0, 0, VOID, 0, 0, true);
        due(x.argument(T, 3), 4);
        due(x.argument(DOUBLE, 0), 5);
        due(x.argument(INT, 0), FULL);
        due(x.argument(VOID, 0), OUTSIDE);
        due(x.argument(T + 1, 0), UNKNOWN);
        due(x.count(4), 5);
    }
}
