public final class Promise06ConstantTest extends PromiseTest {
    public static void main(String[] args) {
        run(Promise06ConstantTest.class);
    }

    /** A class with one final FIELD for each KIND 1 to 8: ENTRIES 0 to 7. */
    private static FieldMember finals() {
        FieldMember x = with(CLASS, NONE);
        for (int kind = BOOLEAN; kind <= DOUBLE; kind++) {
            x.field(0, kind, kind, 0, FINAL);
        }
        return x;
    }

    private static FieldMember told() {
        FieldMember x = finals();
        for (int e = 0; e < 8; e++) {
            x.constant(e, 0);
        }
        return x;
    }

    private static void edge(int kind, long least, long most) {
        int e = kind - 1;
        answers(Promise06ConstantTest::finals, 1, x -> x.constant(e, least));
        answers(Promise06ConstantTest::finals, 1, x -> x.constant(e, most));
        for (long v : new long[] {least - 1, most + 1, Long.MIN_VALUE, Long.MAX_VALUE, (1L << 32) + most, (1L << 32) + least}) {
            breaks(Promise06ConstantTest::finals, 7, x -> x.constant(e, v));
        }
    }

    /** "boolean: 0, 1". */
    static void promise6_booleans() {
        edge(BOOLEAN, 0, 1);
    }

    /** "byte to long: one of that KIND": byte. */
    static void promise6_bytes() {
        edge(BYTE, -128, 127);
    }

    static void promise6_shorts() {
        edge(SHORT, -32768, 32767);
    }

    static void promise6_chars() {
        edge(CHAR, 0, 65535);
    }

    static void promise6_ints() {
        edge(INT, -2147483648L, 2147483647L);
    }

    /** RULE 7 is one of boolean, byte, short, char, int: every long is a long, and has its float and double. */
    static void promise6_longsFloatsDoublesTakeAll() {
        for (long v : new long[] {Long.MIN_VALUE, -1, 0, 1, Long.MAX_VALUE}) {
            for (int kind = LONG; kind <= DOUBLE; kind++) {
                int e = kind - 1;
                answers(Promise06ConstantTest::finals, 1, x -> x.constant(e, v));
            }
        }
    }

    /** "UNKNOWN": the first number that is no ENTRY, and less than 0. */
    static void promise6_unknown() {
        for (int entry : new int[] {-1, 7, 60, MIN, MAX}) {
            refused(PromiseTest::furnished, UNKNOWN, x -> x.constant(entry, 1));
        }
        refused(PromiseTest::begun, UNKNOWN, x -> x.constant(7, 1));
        refused(PromiseTest::fullOfEntries, UNKNOWN, x -> x.constant(60, 1));
        answers(PromiseTest::fullOfEntries, 1, x -> x.constant(59, 1));
    }

    /** "CAST": a MEMBER, a final one too, before STATE. */
    static void promise6_cast() {
        for (int entry = 3; entry <= 6; entry++) {
            int member = entry;
            refused(PromiseTest::furnished, CAST, x -> x.constant(member, 1));
            refused(PromiseTest::furnished, CAST, x -> x.constant(member, Long.MAX_VALUE));
        }
        Scene scene = () -> {
            FieldMember x = with(CLASS, NONE);
            make(x, 0, 0, INT, FINAL, true);
            return x;
        };
        refused(scene, CAST, x -> x.constant(0, 1));
    }

    /** "once", "STATE: it is told": also as 0, also the same again; it stays what it was. */
    static void promise6_once() {
        for (int entry = 0; entry < 8; entry++) {
            int e = entry;
            refused(Promise06ConstantTest::told, STATE, x -> x.constant(e, 0));
            refused(Promise06ConstantTest::told, STATE, x -> x.constant(e, 1));
        }
        refused(PromiseTest::furnished, STATE, x -> x.constant(0, 77));
        refused(PromiseTest::furnished, STATE, x -> x.constant(0, 78));
    }

    private static FieldMember one(int kind, int dims, int marks) {
        FieldMember x = with(CLASS, NONE);
        x.field(0, 0, kind, dims, marks);
        return x;
    }

    /** "a FIELD that is final": told so, or of a FACE, where it is final in any case. */
    static void promise6_onlyFinalOnes() {
        for (int marks : new int[] {0, PUBLIC, STATIC, PUBLIC | STATIC, VOLATILE, TRANSIENT}) {
            refused(() -> one(INT, 0, marks), STATE, x -> x.constant(0, 1));
            answers(() -> one(INT, 0, marks & ~VOLATILE | FINAL), 1, x -> x.constant(0, 1));
        }
        FieldMember x = with(FACE, NONE);
        x.field(0, 0, INT, 0, 0);
        due(x.constant(0, 1), 1);
    }

    /** "of a KIND 1 to 8": not of a TYPE. */
    static void promise6_onlyKinds1To8() {
        answers(() -> one(BOOLEAN, 0, FINAL), 1, x -> x.constant(0, 1));
        answers(() -> one(DOUBLE, 0, FINAL), 1, x -> x.constant(0, 1));
        refused(() -> one(T, 0, FINAL), STATE, x -> x.constant(0, 1));
        refused(() -> one(T, 0, FINAL), STATE, x -> x.constant(0, 0));
    }

    /** "DIMS 0". */
    static void promise6_onlyDims0() {
        for (int kind = BOOLEAN; kind <= DOUBLE; kind++) {
            for (int dims = 1; dims <= 3; dims++) {
                int of = kind;
                int levels = dims;
                refused(() -> one(of, levels, FINAL), STATE, x -> x.constant(0, 1));
            }
        }
    }

    /** STATE comes before RULE 7. */
    static void promise6_stateBeforeRule() {
        refused(Promise06ConstantTest::told, STATE, x -> x.constant(0, 2));
        refused(Promise06ConstantTest::told, STATE, x -> x.constant(1, 128));
        refused(() -> one(BYTE, 0, 0), STATE, x -> x.constant(0, 128));
        refused(() -> one(BYTE, 1, FINAL), STATE, x -> x.constant(0, 128));
    }

    /** One that broke RULE 7 is not told: it may still be, and is 0 until then. */
    static void promise6_brokenIsNotTold() {
        FieldMember x = finals();
        due(x.constant(1, 128), rule(7));
        due(x.value(1), 0);
        due(x.constant(1, -129), rule(7));
        due(x.constant(1, 127), 1);
        due(x.value(1), 127);
        due(x.broken(7), 2);
        due(x.count(5), 2);
    }

    /** Not refused while a MEMBER is begun, nor with 60 ENTRIES; each FIELD has its own. */
    static void promise6_atAnyTime() {
        answers(PromiseTest::begun, 1, x -> x.constant(1, 5));
        FieldMember x = fullOfEntries();
        due(x.constant(59, 9), 1);
        due(x.constant(58, 8), 1);
        due(x.value(59), 9);
        due(x.value(58), 8);
        due(x.value(57), 0);
    }

    static void promise6_inOneRun() {
        FieldMember x = with(FACE, NONE, CLASS, NONE);
        long[] least = {0, 0, -128, -32768, 0, MIN};
        long[] most = {0, 1, 127, 32767, 65535, MAX};
        for (int kind = BOOLEAN; kind <= INT; kind++) {
            int e = x.field(0, kind, kind, 0, 0);
            due(x.constant(e, least[kind] - 1), rule(7));
            due(x.constant(e, most[kind] + 1), rule(7));
            due(x.constant(e, Long.MAX_VALUE), rule(7));
            due(x.constant(e, Long.MIN_VALUE), rule(7));
            due(x.constant(e, (1L << 32) + 1), rule(7));
            due(x.value(e), 0);
            due(x.constant(e, kind % 2 == 0 ? least[kind] : most[kind]), 1);
            due(x.value(e), kind % 2 == 0 ? least[kind] : most[kind]);
            due(x.constant(e, most[kind]), STATE);
            due(x.constant(e, most[kind] + 1), STATE);
        }
        due(x.broken(7), 25);
        due(x.count(5), 25);
        due(x.constant(-1, 0), UNKNOWN);
        due(x.constant(5, 0), UNKNOWN);
        due(x.constant(MAX, 0), UNKNOWN);
        due(make(x, 1, 0, INT, FINAL, true), 5);
        due(x.constant(5, 0), CAST);
        due(x.field(1, 1, INT, 0, PUBLIC | STATIC), 6);
        due(x.constant(6, 0), STATE);
        due(x.field(1, 2, T, 0, FINAL), 7);
        due(x.constant(7, 0), STATE);
        due(x.field(1, 3, BYTE, 1, FINAL), 8);
        due(x.constant(8, 999), STATE);
        due(x.field(1, 4, DOUBLE, 0, FINAL | PRIVATE), 9);
        due(x.constant(9, Long.MAX_VALUE), 1);
        due(x.constant(9, Long.MAX_VALUE), STATE);
        // 0 is told too.
        due(x.field(1, 5, LONG, 0, FINAL), 10);
        due(x.constant(10, 0), 1);
        due(x.constant(10, 0), STATE);
        due(x.field(1, 6, INT, 0, FINAL), 11);
        x.member(1, 1, VOID, 0, 0, true);
        due(x.constant(11, 3), 1);
        due(x.count(5), 25);
    }
}
