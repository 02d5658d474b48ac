public final class Promise08MemberTest extends PromiseTest {
    public static void main(String[] args) {
        run(Promise08MemberTest.class);
    }

    /** "A MEMBER is begun: 1": it is no ENTRY yet, and has no PARAMETERS. */
    static void promise8_begun() {
        FieldMember x = furnished();
        due(x.member(5, 3, INT, 0, 0, true), 1);
        due(x.count(1), 7);
        due(x.count(2), 1);
        due(x.count(3), 0);
        due(x.entry(7, 0), UNKNOWN);
        due(x.end(), 7);
        due(x.shape(7, 0), 0);
        due(x.shape(7, 1), 0);
    }

    /** "UNKNOWN: the TYPE". */
    static void promise8_unknownType() {
        for (int type : new int[] {-1, 6, 12, MIN, MAX}) {
            refused(PromiseTest::furnished, UNKNOWN, x -> x.member(type, 3, INT, 0, 0, true));
        }
        answers(PromiseTest::furnished, 1, x -> x.member(0, 3, INT, 0, 0, false));
        answers(PromiseTest::furnished, 1, x -> x.member(5, 3, INT, 0, 0, true));
    }

    /** "that of the KIND". */
    static void promise8_unknownKind() {
        answers(PromiseTest::furnished, 1, x -> x.member(5, 3, T, 0, 0, true));
        answers(PromiseTest::furnished, 1, x -> x.member(5, 3, T + 5, 0, 0, true));
        for (int kind : new int[] {T + 6, T + 11, T + 12, MAX}) {
            refused(PromiseTest::furnished, UNKNOWN, x -> x.member(5, 3, kind, 0, 0, true));
        }
        answers(PromiseTest::fullOfTypes, 1, x -> x.member(11, 3, T + 11, 0, 0, true));
        refused(PromiseTest::fullOfTypes, UNKNOWN, x -> x.member(11, 3, T + 12, 0, 0, true));
        refused(PromiseTest::fullOfTypes, UNKNOWN, x -> x.member(12, 3, T + 11, 0, 0, true));
    }

    /** UNKNOWN comes before OUTSIDE. */
    static void promise8_unknownBeforeOutside() {
        refused(PromiseTest::furnished, UNKNOWN, x -> x.member(6, 50, INT, 0, 0, true));
        refused(PromiseTest::furnished, UNKNOWN, x -> x.member(6, 3, LINK, 0, 0, true));
        refused(PromiseTest::furnished, UNKNOWN, x -> x.member(-1, 3, INT, 4, 0, true));
        refused(PromiseTest::furnished, UNKNOWN, x -> x.member(-1, 3, INT, 0, 2048, true));
        refused(PromiseTest::furnished, UNKNOWN, x -> x.member(5, -1, T + 6, 0, 0, true));
        refused(PromiseTest::furnished, UNKNOWN, x -> x.member(5, 3, T + 6, -1, 0, true));
        refused(PromiseTest::furnished, UNKNOWN, x -> x.member(5, 3, T + 6, 0, -1, true));
    }

    /** "OUTSIDE: another number": NAMES 0 .. 49. */
    static void promise8_names() {
        answers(PromiseTest::furnished, 1, x -> x.member(5, 0, INT, 0, 0, true));
        answers(PromiseTest::furnished, 1, x -> x.member(5, 49, INT, 0, 0, true));
        for (int name : new int[] {-1, 50, MIN, MAX}) {
            refused(PromiseTest::furnished, OUTSIDE, x -> x.member(5, name, INT, 0, 0, true));
        }
    }

    /** KINDS of results: VOID to double; not less than 0, and 9 is "of arguments alone". */
    static void promise8_kinds() {
        for (int kind = VOID; kind <= DOUBLE; kind++) {
            int allowed = kind;
            answers(PromiseTest::furnished, 1, x -> x.member(5, 3, allowed, 0, 0, true));
        }
        for (int kind : new int[] {-1, LINK, MIN}) {
            for (int dims = 0; dims <= 3; dims++) {
                int levels = dims;
                refused(PromiseTest::furnished, OUTSIDE, x -> x.member(5, 3, kind, levels, 0, true));
            }
        }
    }

    /** "DIMS 0 .. 3". */
    static void promise8_dims() {
        for (int kind : new int[] {BOOLEAN, DOUBLE, T, T + 5}) {
            answers(PromiseTest::furnished, 1, x -> x.member(5, 3, kind, 0, 0, true));
            answers(PromiseTest::furnished, 1, x -> x.member(5, 3, kind, 3, 0, true));
            for (int dims : new int[] {-1, 4, MIN, MAX}) {
                refused(PromiseTest::furnished, OUTSIDE, x -> x.member(5, 3, kind, dims, 0, true));
            }
        }
    }

    /** "DIMS of VOID": 0 alone. */
    static void promise8_dimsOfVoid() {
        answers(PromiseTest::furnished, 1, x -> x.member(5, 3, VOID, 0, 0, true));
        for (int dims : new int[] {-1, 1, 2, 3, 4}) {
            refused(PromiseTest::furnished, OUTSIDE, x -> x.member(5, 3, VOID, dims, 0, true));
        }
    }

    /** MARKS 0 .. 2047: 2047 is one, and breaks RULE 11. */
    static void promise8_marks() {
        answers(PromiseTest::furnished, 1, x -> x.member(5, 3, INT, 0, 0, true));
        breaks(PromiseTest::furnished, 11, x -> x.member(5, 3, INT, 0, 2047, true));
        for (int marks : new int[] {-1, 2048, 2049, 4096, MIN, MAX}) {
            refused(PromiseTest::furnished, OUTSIDE, x -> x.member(5, 3, INT, 0, marks, true));
        }
    }

    /** "STATE: one is begun": that one stays as it was. */
    static void promise8_state() {
        refused(PromiseTest::begun, STATE, x -> x.member(5, 3, INT, 0, 0, true));
        refused(PromiseTest::begun, STATE, x -> x.member(4, 7, T + 1, 1, PROTECTED | FINAL, true));
        FieldMember x = begun();
        due(x.end(), 7);
        due(x.member(5, 3, INT, 0, 0, true), 1);
    }

    /** UNKNOWN and OUTSIDE come before STATE, STATE before a RULE. */
    static void promise8_orderAroundState() {
        refused(PromiseTest::begun, UNKNOWN, x -> x.member(6, 3, INT, 0, 0, true));
        refused(PromiseTest::begun, UNKNOWN, x -> x.member(5, 3, T + 6, 0, 0, true));
        refused(PromiseTest::begun, OUTSIDE, x -> x.member(5, 50, INT, 0, 0, true));
        refused(PromiseTest::begun, OUTSIDE, x -> x.member(5, 3, LINK, 0, 0, true));
        refused(PromiseTest::begun, OUTSIDE, x -> x.member(5, 3, INT, 4, 0, true));
        refused(PromiseTest::begun, OUTSIDE, x -> x.member(5, 3, VOID, 1, 0, true));
        refused(PromiseTest::begun, OUTSIDE, x -> x.member(5, 3, INT, 0, 2048, true));
        refused(PromiseTest::begun, STATE, x -> x.member(5, 3, INT, 0, 2047, true));
        refused(PromiseTest::begun, STATE, x -> x.member(5, 3, INT, 0, 0, false));
        refused(PromiseTest::begun, STATE, x -> x.member(5, 3, INT, 0, ABSTRACT, true));
    }

    /** "FULL: 60 ENTRIES": with 59 one is begun and ended, with 60 none is begun. */
    static void promise8_sixtyAreFull() {
        FieldMember x = fullButOne();
        due(x.member(5, 49, INT, 0, 0, true), 1);
        due(x.end(), 59);
        due(x.member(5, 48, INT, 0, 0, true), FULL);
        due(x.count(2), 0);
        refused(PromiseTest::fullOfEntries, FULL, y -> y.member(5, 49, INT, 0, 0, true));
    }

    /** UNKNOWN and OUTSIDE come before FULL, FULL before a RULE. */
    static void promise8_orderAroundFull() {
        refused(PromiseTest::fullOfEntries, UNKNOWN, x -> x.member(6, 49, INT, 0, 0, true));
        refused(PromiseTest::fullOfEntries, UNKNOWN, x -> x.member(5, 49, T + 6, 0, 0, true));
        refused(PromiseTest::fullOfEntries, OUTSIDE, x -> x.member(5, 50, INT, 0, 0, true));
        refused(PromiseTest::fullOfEntries, OUTSIDE, x -> x.member(5, 49, INT, 0, 2048, true));
        refused(PromiseTest::fullOfEntries, FULL, x -> x.member(5, 49, INT, 0, 2047, true));
        refused(PromiseTest::fullOfEntries, FULL, x -> x.member(5, 49, INT, 0, 0, false));
    }

    /** With 59 ENTRIES and one begun it is STATE, not FULL. */
    static void promise8_stateAtTheLastPlace() {
        Scene scene = () -> {
            FieldMember x = fullButOne();
            x.member(5, 49, INT, 0, 0, true);
            return x;
        };
        refused(scene, STATE, x -> x.member(5, 48, INT, 0, 0, true));
        refused(scene, STATE, x -> x.field(5, 48, INT, 0, 0));
    }

    private static final int IN_CLASS = 5, IN_ABSTRACT = 2, IN_FINAL = 4, IN_FACE = 0;

    private static void broken(int number, int type, int marks, boolean body) {
        breaks(PromiseTest::furnished, number, x -> x.member(type, 3, INT, 0, marks, body));
    }

    private static void goesTogether(int type, int marks, boolean body) {
        answers(PromiseTest::furnished, 1, x -> x.member(type, 3, INT, 0, marks, body));
    }

    /** "11 a MARK that is 5, 6". */
    static void promise8_rule11() {
        for (int type : new int[] {IN_CLASS, IN_ABSTRACT, IN_FINAL, IN_FACE}) {
            broken(11, type, VOLATILE, true);
            broken(11, type, TRANSIENT, true);
            broken(11, type, VOLATILE | TRANSIENT, false);
        }
        for (int mark : new int[] {PUBLIC, PROTECTED, PRIVATE, STATIC, FINAL, SYNCHRONIZED}) {
            goesTogether(IN_CLASS, mark, true);
        }
    }

    /** "12 two or more of 0 to 2". */
    static void promise8_rule12() {
        for (int marks : new int[] {PUBLIC | PROTECTED, PUBLIC | PRIVATE, PROTECTED | PRIVATE, PUBLIC | PROTECTED | PRIVATE}) {
            broken(12, IN_CLASS, marks, true);
            broken(12, IN_FACE, marks, true);
        }
    }

    /** "13 default in a class". */
    static void promise8_rule13OfClasses() {
        for (int type : new int[] {IN_CLASS, IN_ABSTRACT, IN_FINAL}) {
            broken(13, type, DEFAULT, true);
            broken(13, type, DEFAULT, false);
            broken(13, type, DEFAULT | PUBLIC, true);
        }
    }

    /** "in a FACE protected, final, synchronized, native". */
    static void promise8_rule13MarksOfFaces() {
        for (int mark : new int[] {PROTECTED, FINAL, SYNCHRONIZED, NATIVE}) {
            for (int more : new int[] {0, STATIC, DEFAULT, ABSTRACT}) {
                broken(13, IN_FACE, mark | more, true);
                broken(13, IN_FACE, mark | more, false);
            }
        }
    }

    /** "or two or more of static, default, abstract": one of them alone may be. */
    static void promise8_rule13TwoOfThree() {
        for (int marks : new int[] {STATIC | DEFAULT, STATIC | ABSTRACT, DEFAULT | ABSTRACT, STATIC | DEFAULT | ABSTRACT}) {
            broken(13, IN_FACE, marks, true);
            broken(13, IN_FACE, marks, false);
        }
        goesTogether(IN_FACE, STATIC, true);
        goesTogether(IN_FACE, DEFAULT, true);
        goesTogether(IN_FACE, ABSTRACT, false);
    }

    /** "or private with default or abstract": with static it may be. */
    static void promise8_rule13Private() {
        broken(13, IN_FACE, PRIVATE | DEFAULT, true);
        broken(13, IN_FACE, PRIVATE | ABSTRACT, false);
        broken(13, IN_FACE, PRIVATE | ABSTRACT, true);
        goesTogether(IN_FACE, PRIVATE | STATIC, true);
        goesTogether(IN_FACE, PRIVATE, true);
        goesTogether(IN_FACE, PUBLIC | DEFAULT, true);
        goesTogether(IN_FACE, PUBLIC | ABSTRACT, false);
    }

    /** "14 abstract with private, static, final, native, synchronized (of classes)": in each SORT of class. */
    static void promise8_rule14() {
        for (int mark : new int[] {PRIVATE, STATIC, FINAL, NATIVE, SYNCHRONIZED}) {
            for (int type : new int[] {IN_CLASS, IN_ABSTRACT, IN_FINAL}) {
                broken(14, type, ABSTRACT | mark, false);
                broken(14, type, ABSTRACT | mark, true);
            }
        }
        goesTogether(IN_ABSTRACT, ABSTRACT | PUBLIC, false);
        goesTogether(IN_ABSTRACT, ABSTRACT | PROTECTED, false);
        goesTogether(IN_ABSTRACT, ABSTRACT, false);
    }

    /** "15 abstract in a class that is not ABSTRACT". */
    static void promise8_rule15() {
        for (int type : new int[] {IN_CLASS, IN_FINAL}) {
            broken(15, type, ABSTRACT, false);
            broken(15, type, ABSTRACT, true);
            broken(15, type, ABSTRACT | PUBLIC, false);
        }
        goesTogether(IN_ABSTRACT, ABSTRACT, false);
    }

    /** "16 a BODY, and it is abstract or native". */
    static void promise8_rule16OfClasses() {
        broken(16, IN_ABSTRACT, ABSTRACT, true);
        broken(16, IN_ABSTRACT, NATIVE, true);
        broken(16, IN_CLASS, NATIVE, true);
        broken(16, IN_FINAL, NATIVE | STATIC, true);
    }

    /** "or in a FACE has none of private, static, default". */
    static void promise8_rule16OfFaces() {
        broken(16, IN_FACE, 0, true);
        broken(16, IN_FACE, PUBLIC, true);
        broken(16, IN_FACE, ABSTRACT, true);
        broken(16, IN_FACE, ABSTRACT | PUBLIC, true);
    }

    /** "17 no BODY, and not so". */
    static void promise8_rule17() {
        for (int type : new int[] {IN_CLASS, IN_ABSTRACT, IN_FINAL}) {
            broken(17, type, 0, false);
            broken(17, type, PUBLIC | STATIC | FINAL | SYNCHRONIZED, false);
            goesTogether(type, NATIVE, false);
            goesTogether(type, 0, true);
        }
        broken(17, IN_FACE, PRIVATE, false);
        broken(17, IN_FACE, STATIC, false);
        broken(17, IN_FACE, DEFAULT, false);
        broken(17, IN_FACE, PRIVATE | STATIC, false);
        goesTogether(IN_FACE, 0, false);
        goesTogether(IN_FACE, PUBLIC, false);
    }

    /** The first RULE of several. */
    static void promise8_firstRule() {
        broken(11, IN_CLASS, VOLATILE | PUBLIC | PRIVATE | DEFAULT, true);
        broken(12, IN_CLASS, PUBLIC | PRIVATE | DEFAULT, true);
        broken(12, IN_FACE, PUBLIC | PROTECTED, true);
        broken(13, IN_CLASS, DEFAULT | ABSTRACT | STATIC, true);
        broken(13, IN_FACE, ABSTRACT | STATIC, false);
        broken(14, IN_CLASS, ABSTRACT | FINAL, true);
        broken(15, IN_CLASS, ABSTRACT, true);
        broken(13, IN_FACE, NATIVE, true);
        broken(13, IN_CLASS, DEFAULT, false);
    }

    /** "In a FACE it is public, if not private, and abstract, if it has none of private, static, default." */
    static void promise8_marksInAnyCase() {
        int[][] told = {{0, PUBLIC | ABSTRACT}, {PUBLIC, PUBLIC | ABSTRACT}, {ABSTRACT, PUBLIC | ABSTRACT},
            {PUBLIC | ABSTRACT, PUBLIC | ABSTRACT}, {STATIC, PUBLIC | STATIC}, {PUBLIC | STATIC, PUBLIC | STATIC},
            {DEFAULT, PUBLIC | DEFAULT}, {PUBLIC | DEFAULT, PUBLIC | DEFAULT}, {PRIVATE, PRIVATE},
            {PRIVATE | STATIC, PRIVATE | STATIC}};
        for (int[] each : told) {
            FieldMember x = with(FACE, NONE);
            boolean body = (each[0] & (PRIVATE | STATIC | DEFAULT)) != 0;
            due(make(x, 0, 0, INT, each[0], body), 0);
            due(x.entry(0, 5), each[1]);
            due(x.shape(0, 2), body ? 1 : 0);
        }
    }

    /** In a class, of whatever SORT, it has only what was told. */
    static void promise8_marksInClasses() {
        for (int sort = CLASS; sort <= FINAL_CLASS; sort++) {
            for (int marks : new int[] {0, PUBLIC, PROTECTED, PRIVATE, STATIC, FINAL, SYNCHRONIZED, NATIVE}) {
                FieldMember x = with(sort, NONE);
                due(make(x, 0, 0, INT, marks, marks != NATIVE), 0);
                due(x.entry(0, 5), marks);
            }
        }
        FieldMember x = with(ABSTRACT_CLASS, NONE);
        due(make(x, 0, 0, INT, ABSTRACT, false), 0);
        due(x.entry(0, 5), ABSTRACT);
    }

    /** That its TYPE has a like one is told when it is ended, not when it is begun; a FIELD's NAME means nothing. */
    static void promise8_twiceIsToldAtTheEnd() {
        FieldMember x = with(CLASS, NONE);
        due(x.field(0, 0, INT, 0, 0), 0);
        due(make(x, 0, 0, INT, 0, true), 1);
        due(x.member(0, 0, INT, 0, 0, true), 1);
        due(x.parameter(INT, 0, false), 1);
        due(x.end(), 2);
    }

    static void promise8_inOneRun() {
        FieldMember x = with(CLASS, NONE);
        due(x.member(1, 0, INT, 0, 0, true), UNKNOWN);
        due(x.member(-1, 99, LINK, 9, -1, true), UNKNOWN);
        due(x.member(0, 99, T + 1, 9, -1, true), UNKNOWN);
        due(x.member(0, -1, INT, 0, 0, true), OUTSIDE);
        due(x.member(0, 50, INT, 0, 0, true), OUTSIDE);
        due(x.member(0, 0, -1, 0, 0, true), OUTSIDE);
        due(x.member(0, 0, LINK, 0, 0, true), OUTSIDE);
        due(x.member(0, 0, INT, -1, 0, true), OUTSIDE);
        due(x.member(0, 0, INT, 4, 0, true), OUTSIDE);
        due(x.member(0, 0, VOID, 1, 0, true), OUTSIDE);
        due(x.member(0, 0, INT, 0, -1, true), OUTSIDE);
        due(x.member(0, 0, INT, 0, 2048, true), OUTSIDE);
        due(x.count(2), 0);
        due(x.member(0, 0, T, 3, 0, true), 1);
        due(x.count(2), 1);
        due(x.member(0, 0, T, 3, VOLATILE, true), STATE);
        due(x.member(0, 0, LINK, 0, 0, true), OUTSIDE);
        due(x.member(0, 50, INT, 0, 0, true), OUTSIDE);
        due(x.member(0, 50, T + 1, 0, 0, true), UNKNOWN);
        due(x.end(), 0);
        for (int e = 1; e < 60; e++) {
            due(make(x, 0, e % 50, INT, 0, true, e < 50 ? INT : LONG, 0), e);
        }
        due(x.member(0, 0, INT, 0, 0, true), FULL);
        due(x.member(0, 0, INT, 0, VOLATILE, true), FULL);
        due(x.member(0, 50, INT, 0, 0, true), OUTSIDE);
        due(x.count(2), 0);
        due(x.count(5), 0);
    }

    private static void memberDue(int sort, int marks, boolean body, int want) {
        FieldMember x = with(sort, NONE);
        due(x.member(0, 1, VOID, 0, marks, body), want);
        due(x.count(2), want == 1 ? 1 : 0);
        due(x.count(5), want == 1 ? 0 : 1);
        if (want != 1) {
            due(x.broken(-40 - want), 1);
        }
    }

    static void promise8_rulesOfClasses() {
        memberDue(CLASS, VOLATILE, true, rule(11));
        memberDue(CLASS, TRANSIENT | PUBLIC | PRIVATE, true, rule(11));
        memberDue(CLASS, PUBLIC | PROTECTED | DEFAULT, true, rule(12));
        memberDue(CLASS, PROTECTED | PRIVATE, true, rule(12));
        memberDue(CLASS, PUBLIC | PRIVATE, true, rule(12));
        memberDue(CLASS, DEFAULT | ABSTRACT | STATIC, true, rule(13));
        memberDue(ABSTRACT_CLASS, DEFAULT, true, rule(13));
        int[] notAbstract = {PRIVATE, STATIC, FINAL, NATIVE, SYNCHRONIZED};
        for (int mark : notAbstract) {
            memberDue(ABSTRACT_CLASS, ABSTRACT | mark, false, rule(14));
            memberDue(CLASS, ABSTRACT | mark, true, rule(14));
        }
        memberDue(CLASS, ABSTRACT, false, rule(15));
        memberDue(FINAL_CLASS, ABSTRACT, true, rule(15));
        memberDue(ABSTRACT_CLASS, ABSTRACT, true, rule(16));
        memberDue(CLASS, NATIVE, true, rule(16));
        memberDue(CLASS, 0, false, rule(17));
        memberDue(ABSTRACT_CLASS, PRIVATE, false, rule(17));
        memberDue(CLASS, STATIC, false, rule(17));
        memberDue(ABSTRACT_CLASS, ABSTRACT, false, 1);
        memberDue(ABSTRACT_CLASS, ABSTRACT | PROTECTED, false, 1);
        memberDue(CLASS, NATIVE | STATIC | FINAL | SYNCHRONIZED | PRIVATE, false, 1);
        memberDue(FINAL_CLASS, STATIC | FINAL | SYNCHRONIZED | PROTECTED, true, 1);
        memberDue(ABSTRACT_CLASS, 0, true, 1);
    }

    static void promise8_rulesOfFaces() {
        memberDue(FACE, VOLATILE | PROTECTED, true, rule(11));
        memberDue(FACE, PUBLIC | PROTECTED, true, rule(12));
        int[] barred = {PROTECTED, FINAL, SYNCHRONIZED, NATIVE};
        for (int mark : barred) {
            memberDue(FACE, mark, false, rule(13));
            memberDue(FACE, mark | DEFAULT, true, rule(13));
        }
        memberDue(FACE, STATIC | DEFAULT, true, rule(13));
        memberDue(FACE, STATIC | ABSTRACT, true, rule(13));
        memberDue(FACE, DEFAULT | ABSTRACT, false, rule(13));
        memberDue(FACE, PRIVATE | DEFAULT, true, rule(13));
        memberDue(FACE, PRIVATE | ABSTRACT, false, rule(13));
        memberDue(FACE, 0, true, rule(16));
        memberDue(FACE, PUBLIC | ABSTRACT, true, rule(16));
        memberDue(FACE, PRIVATE, false, rule(17));
        memberDue(FACE, STATIC, false, rule(17));
        memberDue(FACE, DEFAULT, false, rule(17));
        memberDue(FACE, 0, false, 1);
        memberDue(FACE, PUBLIC | ABSTRACT, false, 1);
        memberDue(FACE, PRIVATE | STATIC, true, 1);
        memberDue(FACE, PRIVATE, true, 1);
        memberDue(FACE, PUBLIC | STATIC, true, 1);
        memberDue(FACE, DEFAULT, true, 1);
    }
}
