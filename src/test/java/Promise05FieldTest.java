public final class Promise05FieldTest extends PromiseTest {
    public static void main(String[] args) {
        run(Promise05FieldTest.class);
    }

    /** "A FIELD: its ENTRY": the next number, FIELDS and MEMBERS counted together. */
    static void promise5_numbersAsTheyCome() {
        FieldMember x = with(CLASS, NONE);
        due(x.field(0, 0, INT, 0, 0), 0);
        due(make(x, 0, 0, INT, 0, true), 1);
        due(x.field(0, 0, INT, 0, 0), rule(6));
        due(x.field(0, 1, INT, 0, 0), 2);
        due(x.count(1), 3);
    }

    /** "UNKNOWN: the TYPE". */
    static void promise5_unknownType() {
        for (int type : new int[] {-1, 6, 12, MIN, MAX}) {
            refused(PromiseTest::furnished, UNKNOWN, x -> x.field(type, 3, INT, 0, 0));
        }
        answers(PromiseTest::furnished, 7, x -> x.field(0, 3, INT, 0, 0));
        answers(PromiseTest::furnished, 7, x -> x.field(5, 3, INT, 0, 0));
    }

    /** "that of the KIND": 10 is TYPE 0, the latest TYPE's is the last; behind it there is no TYPE. */
    static void promise5_unknownKind() {
        answers(PromiseTest::furnished, 7, x -> x.field(5, 3, T, 0, 0));
        answers(PromiseTest::furnished, 7, x -> x.field(5, 3, T + 5, 0, 0));
        for (int kind : new int[] {T + 6, T + 11, T + 12, MAX}) {
            refused(PromiseTest::furnished, UNKNOWN, x -> x.field(5, 3, kind, 0, 0));
        }
        answers(PromiseTest::fullOfTypes, 0, x -> x.field(5, 3, T + 11, 0, 0));
        refused(PromiseTest::fullOfTypes, UNKNOWN, x -> x.field(5, 3, T + 12, 0, 0));
    }

    /** UNKNOWN comes before OUTSIDE. */
    static void promise5_unknownBeforeOutside() {
        refused(PromiseTest::furnished, UNKNOWN, x -> x.field(6, 50, INT, 0, 0));
        refused(PromiseTest::furnished, UNKNOWN, x -> x.field(6, 3, LINK, 0, 0));
        refused(PromiseTest::furnished, UNKNOWN, x -> x.field(-1, 3, INT, 4, 0));
        refused(PromiseTest::furnished, UNKNOWN, x -> x.field(-1, 3, INT, 0, 2048));
        refused(PromiseTest::furnished, UNKNOWN, x -> x.field(5, -1, T + 6, 0, 0));
        refused(PromiseTest::furnished, UNKNOWN, x -> x.field(5, 3, T + 6, -1, 0));
        refused(PromiseTest::furnished, UNKNOWN, x -> x.field(5, 3, T + 6, 0, -1));
    }

    /** "a NAME 0 .. 49". */
    static void promise5_names() {
        answers(PromiseTest::furnished, 7, x -> x.field(5, 0, INT, 0, 0));
        answers(PromiseTest::furnished, 7, x -> x.field(5, 49, INT, 0, 0));
        for (int name : new int[] {-1, 50, MIN, MAX}) {
            refused(PromiseTest::furnished, OUTSIDE, x -> x.field(5, name, INT, 0, 0));
        }
    }

    /** "KINDS", "KIND 9": 1 to 8 may be, less than 0 and 9 are OUTSIDE. */
    static void promise5_kinds() {
        for (int kind = BOOLEAN; kind <= DOUBLE; kind++) {
            int allowed = kind;
            answers(PromiseTest::furnished, 7, x -> x.field(5, 3, allowed, 0, 0));
        }
        for (int kind : new int[] {-1, LINK, MIN}) {
            for (int dims = 0; dims <= 3; dims++) {
                int levels = dims;
                refused(PromiseTest::furnished, OUTSIDE, x -> x.field(5, 3, kind, levels, 0));
            }
        }
    }

    /** "DIMS 0 .. 3". */
    static void promise5_dims() {
        for (int kind : new int[] {BOOLEAN, DOUBLE, T, T + 5}) {
            answers(PromiseTest::furnished, 7, x -> x.field(5, 3, kind, 0, 0));
            answers(PromiseTest::furnished, 7, x -> x.field(5, 3, kind, 3, 0));
            for (int dims : new int[] {-1, 4, MIN, MAX}) {
                refused(PromiseTest::furnished, OUTSIDE, x -> x.field(5, 3, kind, dims, 0));
            }
        }
    }

    /** "DIMS of VOID": with DIMS 0 it breaks RULE 5, with 1 to 3 it is OUTSIDE. */
    static void promise5_dimsOfVoid() {
        breaks(PromiseTest::furnished, 5, x -> x.field(5, 3, VOID, 0, 0));
        for (int dims : new int[] {-1, 1, 2, 3, 4}) {
            refused(PromiseTest::furnished, OUTSIDE, x -> x.field(5, 3, VOID, dims, 0));
        }
    }

    /** "MARKS 0 .. 2047": 2047 is one, and breaks RULE 1. */
    static void promise5_marks() {
        answers(PromiseTest::furnished, 7, x -> x.field(5, 3, INT, 0, 0));
        breaks(PromiseTest::furnished, 1, x -> x.field(5, 3, INT, 0, 2047));
        for (int marks : new int[] {-1, 2048, 2049, 4096, MIN, MAX}) {
            refused(PromiseTest::furnished, OUTSIDE, x -> x.field(5, 3, INT, 0, marks));
        }
    }

    /** "STATE: a MEMBER is begun", until it is ended or gone. */
    static void promise5_state() {
        refused(PromiseTest::begun, STATE, x -> x.field(5, 3, INT, 0, 0));
        FieldMember x = begun();
        due(x.end(), 7);
        due(x.field(5, 3, INT, 0, 0), 8);
        FieldMember y = with(CLASS, NONE);
        make(y, 0, 0, INT, 0, true);
        y.member(0, 0, INT, 0, 0, true);
        due(y.field(0, 0, INT, 0, 0), STATE);
        due(y.end(), rule(21));
        due(y.field(0, 0, INT, 0, 0), 1);
    }

    /** UNKNOWN and OUTSIDE come before STATE, STATE before a RULE. */
    static void promise5_orderAroundState() {
        refused(PromiseTest::begun, UNKNOWN, x -> x.field(6, 3, INT, 0, 0));
        refused(PromiseTest::begun, UNKNOWN, x -> x.field(5, 3, T + 6, 0, 0));
        refused(PromiseTest::begun, OUTSIDE, x -> x.field(5, 50, INT, 0, 0));
        refused(PromiseTest::begun, OUTSIDE, x -> x.field(5, 3, LINK, 0, 0));
        refused(PromiseTest::begun, OUTSIDE, x -> x.field(5, 3, INT, 4, 0));
        refused(PromiseTest::begun, OUTSIDE, x -> x.field(5, 3, VOID, 1, 0));
        refused(PromiseTest::begun, OUTSIDE, x -> x.field(5, 3, INT, 0, 2048));
        refused(PromiseTest::begun, STATE, x -> x.field(5, 3, INT, 0, 2047));
        refused(PromiseTest::begun, STATE, x -> x.field(5, 3, VOID, 0, 0));
        refused(PromiseTest::begun, STATE, x -> x.field(0, 0, INT, 0, 0));
    }

    /** "ENTRIES 0 .. 59", "FULL": the sixtieth comes, the next one does not. */
    static void promise5_sixtyAreFull() {
        answers(PromiseTest::fullButOne, 59, x -> x.field(5, 49, INT, 0, 0));
        refused(PromiseTest::fullOfEntries, FULL, x -> x.field(5, 49, INT, 0, 0));
        answers(PromiseTest::fullOfEntries, 60, x -> x.count(1));
    }

    /** UNKNOWN and OUTSIDE come before FULL, FULL before a RULE. */
    static void promise5_orderAroundFull() {
        refused(PromiseTest::fullOfEntries, UNKNOWN, x -> x.field(6, 49, INT, 0, 0));
        refused(PromiseTest::fullOfEntries, UNKNOWN, x -> x.field(5, 49, T + 6, 0, 0));
        refused(PromiseTest::fullOfEntries, OUTSIDE, x -> x.field(5, 50, INT, 0, 0));
        refused(PromiseTest::fullOfEntries, OUTSIDE, x -> x.field(5, 49, INT, 0, 2048));
        refused(PromiseTest::fullOfEntries, FULL, x -> x.field(5, 49, INT, 0, 2047));
        refused(PromiseTest::fullOfEntries, FULL, x -> x.field(5, 49, VOID, 0, 0));
        refused(PromiseTest::fullOfEntries, FULL, x -> x.field(0, 0, INT, 0, 0));
    }

    /** "1 a MARK that is none of 0 to 6": 7 to 10, each of them, in classes and FACES. */
    static void promise5_rule1() {
        for (int bit = 0; bit <= 10; bit++) {
            int mark = 1 << bit;
            if (bit <= 6) {
                answers(PromiseTest::furnished, 7, x -> x.field(5, 3, INT, 0, mark));
            } else {
                breaks(PromiseTest::furnished, 1, x -> x.field(5, 3, INT, 0, mark));
                breaks(PromiseTest::furnished, 1, x -> x.field(0, 3, INT, 0, mark));
            }
        }
    }

    /** "2 two or more of 0 to 2". */
    static void promise5_rule2() {
        for (int marks : new int[] {PUBLIC | PROTECTED, PUBLIC | PRIVATE, PROTECTED | PRIVATE, PUBLIC | PROTECTED | PRIVATE}) {
            breaks(PromiseTest::furnished, 2, x -> x.field(5, 3, INT, 0, marks));
            breaks(PromiseTest::furnished, 2, x -> x.field(0, 3, INT, 0, marks));
        }
    }

    /** "3 final and volatile"; all others go together. */
    static void promise5_rule3() {
        breaks(PromiseTest::furnished, 3, x -> x.field(5, 3, INT, 0, FINAL | VOLATILE));
        breaks(PromiseTest::furnished, 3, x -> x.field(5, 3, INT, 0, PRIVATE | STATIC | FINAL | VOLATILE | TRANSIENT));
        answers(PromiseTest::furnished, 7, x -> x.field(5, 3, INT, 0, PRIVATE | STATIC | FINAL | TRANSIENT));
        answers(PromiseTest::furnished, 7, x -> x.field(5, 3, INT, 0, PROTECTED | STATIC | VOLATILE | TRANSIENT));
    }

    /** "4 in a FACE a MARK but public, static, final". */
    static void promise5_rule4() {
        for (int mark : new int[] {PROTECTED, PRIVATE, VOLATILE, TRANSIENT}) {
            breaks(PromiseTest::furnished, 4, x -> x.field(0, 3, INT, 0, mark));
            breaks(PromiseTest::furnished, 4, x -> x.field(1, 3, INT, 0, mark | STATIC));
        }
        for (int marks : new int[] {0, PUBLIC, STATIC, FINAL, PUBLIC | STATIC | FINAL}) {
            answers(PromiseTest::furnished, 7, x -> x.field(0, 3, INT, 0, marks));
        }
    }

    /** "5 VOID", in a class and in a FACE. */
    static void promise5_rule5() {
        breaks(PromiseTest::furnished, 5, x -> x.field(5, 3, VOID, 0, PUBLIC));
        breaks(PromiseTest::furnished, 5, x -> x.field(0, 3, VOID, 0, PUBLIC));
    }

    /** "6 its TYPE has a FIELD of that NAME": not another TYPE, not another NAME, not a MEMBER. */
    static void promise5_rule6() {
        breaks(PromiseTest::furnished, 6, x -> x.field(0, 0, INT, 0, 0));
        breaks(PromiseTest::furnished, 6, x -> x.field(3, 1, T, 2, STATIC));
        breaks(PromiseTest::fullButOne, 6, x -> x.field(5, 29, INT, 0, 0));
        answers(PromiseTest::furnished, 7, x -> x.field(0, 1, INT, 0, 0));
        answers(PromiseTest::furnished, 7, x -> x.field(3, 0, INT, 0, 0));
        answers(PromiseTest::furnished, 7, x -> x.field(4, 1, INT, 0, 0));
        answers(PromiseTest::furnished, 7, x -> x.field(3, 5, INT, 0, 0));
    }

    /** "the first one": of two RULES in a row the lesser is told and counted. */
    static void promise5_firstRule() {
        breaks(PromiseTest::furnished, 1, x -> x.field(5, 3, INT, 0, ABSTRACT | PUBLIC | PRIVATE));
        breaks(PromiseTest::furnished, 2, x -> x.field(5, 3, INT, 0, PUBLIC | PRIVATE | FINAL | VOLATILE));
        breaks(PromiseTest::furnished, 2, x -> x.field(0, 3, INT, 0, PUBLIC | PRIVATE));
        breaks(PromiseTest::furnished, 3, x -> x.field(0, 3, INT, 0, FINAL | VOLATILE));
        breaks(PromiseTest::furnished, 4, x -> x.field(0, 3, VOID, 0, TRANSIENT));
        breaks(PromiseTest::furnished, 5, x -> x.field(0, 0, VOID, 0, 0));
        breaks(PromiseTest::furnished, 1, x -> x.field(0, 0, VOID, 0, 2047));
    }

    /** "In a FACE it has public, static, final in any case". */
    static void promise5_marksInAnyCase() {
        int all = PUBLIC | STATIC | FINAL;
        for (int marks : new int[] {0, PUBLIC, STATIC, FINAL, PUBLIC | STATIC, PUBLIC | FINAL, STATIC | FINAL, all}) {
            FieldMember x = with(FACE, NONE);
            due(x.field(0, 0, INT, 0, marks), 0);
            due(x.entry(0, 5), all);
        }
    }

    /** In a class, of whatever SORT, it has only what was told. */
    static void promise5_marksInClasses() {
        for (int sort = CLASS; sort <= FINAL_CLASS; sort++) {
            for (int bit = -1; bit <= 6; bit++) {
                int marks = bit < 0 ? 0 : 1 << bit;
                FieldMember x = with(sort, NONE);
                due(x.field(0, 0, INT, 0, marks), 0);
                due(x.entry(0, 5), marks);
            }
        }
    }

    static void promise5_inOneRun() {
        FieldMember x = with(CLASS, NONE, FACE, NONE);
        due(x.field(2, 0, INT, 0, 0), UNKNOWN);
        due(x.field(-1, 99, 99, 99, -1), UNKNOWN);
        due(x.field(0, 99, T + 2, 9, -1), UNKNOWN);
        due(x.field(0, 0, MAX, 0, 0), UNKNOWN);
        due(x.field(0, -1, INT, 0, 0), OUTSIDE);
        due(x.field(0, 50, INT, 0, 0), OUTSIDE);
        due(x.field(0, 0, -1, 0, 0), OUTSIDE);
        due(x.field(0, 0, MIN, 0, 0), OUTSIDE);
        due(x.field(0, 0, LINK, 0, 0), OUTSIDE);
        due(x.field(0, 0, LINK, 1, 0), OUTSIDE);
        due(x.field(0, 0, INT, -1, 0), OUTSIDE);
        due(x.field(0, 0, INT, 4, 0), OUTSIDE);
        due(x.field(0, 0, VOID, 1, 0), OUTSIDE);
        due(x.field(0, 0, INT, 0, -1), OUTSIDE);
        due(x.field(0, 0, INT, 0, 2048), OUTSIDE);
        due(x.field(0, 0, INT, 0, 2047), rule(1));
        due(x.field(0, 0, INT, 0, 0), 0);
        due(x.field(0, 49, T + 1, 3, PRIVATE | TRANSIENT | VOLATILE), 1);
        due(x.field(1, 0, T, 0, 0), 2);
        x.member(0, 0, VOID, 0, 0, true);
        due(x.field(0, 0, INT, 0, 2047), STATE);
        due(x.field(0, 50, INT, 0, 0), OUTSIDE);
        due(x.field(0, 1, T + 5, 0, 0), UNKNOWN);
        due(x.end(), 3);
        for (int e = 4; e < 60; e++) {
            due(x.field(e % 2, 1 + e / 2, INT, 0, 0), e);
        }
        due(x.field(0, 40, INT, 0, 0), FULL);
        due(x.field(0, 0, INT, 0, 2047), FULL);
        due(x.field(0, 50, INT, 0, 0), OUTSIDE);
        due(x.field(2, 0, INT, 0, 0), UNKNOWN);
        due(x.member(0, 1, VOID, 0, 32, true), FULL);
        due(x.count(1), 60);
        due(x.count(5), 1);
    }

    static void promise5_rulesInOneRun() {
        FieldMember x = with(CLASS, NONE, FACE, NONE, CLASS, 0);
        for (int mark = 7; mark <= 10; mark++) {
            due(x.field(0, 0, INT, 0, 1 << mark), rule(1));
        }
        due(x.field(0, 0, VOID, 0, ABSTRACT | PUBLIC | PRIVATE), rule(1));
        due(x.field(0, 0, VOID, 0, PUBLIC | PROTECTED | FINAL | VOLATILE), rule(2));
        due(x.field(0, 0, INT, 0, PROTECTED | PRIVATE), rule(2));
        due(x.field(0, 0, INT, 0, PUBLIC | PRIVATE), rule(2));
        due(x.field(0, 0, INT, 0, PUBLIC | PROTECTED | PRIVATE), rule(2));
        due(x.field(1, 0, VOID, 0, FINAL | VOLATILE), rule(3));
        due(x.field(1, 0, VOID, 0, VOLATILE), rule(4));
        due(x.field(1, 0, INT, 0, TRANSIENT), rule(4));
        due(x.field(1, 0, INT, 0, PROTECTED), rule(4));
        due(x.field(1, 0, INT, 0, PRIVATE), rule(4));
        due(x.field(1, 0, VOID, 0, PUBLIC), rule(5));
        due(x.field(0, 0, VOID, 0, 0), rule(5));
        due(x.count(1), 0);
        due(x.field(0, 0, INT, 0, PUBLIC | STATIC | FINAL | TRANSIENT), 0);
        due(x.field(0, 0, VOID, 0, 0), rule(5));
        due(x.field(0, 0, LONG, 2, PRIVATE), rule(6));
        due(x.field(2, 0, INT, 0, 0), 1);
        due(x.field(1, 0, INT, 0, PUBLIC | STATIC | FINAL), 2);
        due(x.field(1, 0, INT, 0, 0), rule(6));
        due(x.field(1, 1, INT, 0, STATIC), 3);
        due(x.entry(3, 5), PUBLIC | STATIC | FINAL);
        // A MEMBER of that NAME is no FIELD.
        due(make(x, 0, 7, INT, 0, true), 4);
        due(x.field(0, 7, INT, 0, 0), 5);
        due(x.broken(1), 5);
        due(x.broken(2), 4);
        due(x.broken(3), 1);
        due(x.broken(4), 4);
        due(x.broken(5), 3);
        due(x.broken(6), 2);
        due(x.count(5), 19);
    }
}
