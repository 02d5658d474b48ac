public final class Promise09ParameterTest extends PromiseTest {
    public static void main(String[] args) {
        run(Promise09ParameterTest.class);
    }

    /** The furnished one with a MEMBER that has no PARAMETERS yet. */
    private static FieldMember empty() {
        FieldMember x = furnished();
        x.member(5, 3, INT, 0, 0, true);
        return x;
    }

    private static FieldMember varied() {
        FieldMember x = empty();
        x.parameter(INT, 1, true);
        return x;
    }

    /** "how many", "5 at most": the fifth comes, the sixth is FULL. */
    static void promise9_fiveAreFull() {
        FieldMember x = empty();
        for (int i = 1; i <= 5; i++) {
            due(x.parameter(INT, 0, false), i);
            due(x.count(3), i);
        }
        due(x.parameter(INT, 0, false), FULL);
        due(x.count(3), 5);
        due(x.end(), 7);
        due(x.shape(7, 0), 5);
        refused(PromiseTest::fullOfParameters, FULL, y -> y.parameter(INT, 0, false));
        refused(PromiseTest::fullOfParameters, FULL, y -> y.parameter(INT, 1, false));
    }

    /** "STATE: none is begun", "(STATE first.)": before UNKNOWN, OUTSIDE, a RULE. */
    static void promise9_stateFirst() {
        refused(PromiseTest::furnished, STATE, x -> x.parameter(INT, 0, false));
        refused(PromiseTest::furnished, STATE, x -> x.parameter(T + 6, 0, false));
        refused(PromiseTest::furnished, STATE, x -> x.parameter(LINK, 0, false));
        refused(PromiseTest::furnished, STATE, x -> x.parameter(INT, 4, false));
        refused(PromiseTest::furnished, STATE, x -> x.parameter(VOID, 0, true));
        FieldMember x = fullOfParameters();
        due(x.end(), 7);
        due(x.parameter(INT, 0, false), STATE);
        FieldMember y = furnished();
        due(y.member(5, 3, INT, 0, 0, false), rule(17));
        due(y.parameter(INT, 0, false), STATE);
    }

    /** "UNKNOWN: TYPE of the KIND". */
    static void promise9_unknownKind() {
        answers(Promise09ParameterTest::empty, 1, x -> x.parameter(T, 0, false));
        answers(Promise09ParameterTest::empty, 1, x -> x.parameter(T + 5, 0, false));
        for (int kind : new int[] {T + 6, T + 11, T + 12, MAX}) {
            refused(Promise09ParameterTest::empty, UNKNOWN, x -> x.parameter(kind, 0, false));
        }
    }

    /** "OUTSIDE: another number": KINDS less than 0, and 9. */
    static void promise9_kinds() {
        for (int kind = BOOLEAN; kind <= DOUBLE; kind++) {
            int allowed = kind;
            answers(Promise09ParameterTest::empty, 1, x -> x.parameter(allowed, 0, false));
        }
        for (int kind : new int[] {-1, LINK, MIN}) {
            for (int dims = 0; dims <= 3; dims++) {
                int levels = dims;
                refused(Promise09ParameterTest::empty, OUTSIDE, x -> x.parameter(kind, levels, false));
            }
        }
    }

    /** DIMS 0 .. 3. */
    static void promise9_dims() {
        for (int kind : new int[] {BOOLEAN, DOUBLE, T, T + 5}) {
            answers(Promise09ParameterTest::empty, 1, x -> x.parameter(kind, 0, false));
            answers(Promise09ParameterTest::empty, 1, x -> x.parameter(kind, 3, false));
            for (int dims : new int[] {-1, 4, MIN, MAX}) {
                refused(Promise09ParameterTest::empty, OUTSIDE, x -> x.parameter(kind, dims, false));
                refused(Promise09ParameterTest::empty, OUTSIDE, x -> x.parameter(kind, dims, true));
            }
        }
    }

    /** "DIMS of VOID": with 0 it breaks RULE 18, with others it is OUTSIDE. */
    static void promise9_dimsOfVoid() {
        breaks(Promise09ParameterTest::empty, 18, x -> x.parameter(VOID, 0, false));
        for (int dims : new int[] {-1, 1, 2, 3, 4}) {
            refused(Promise09ParameterTest::empty, OUTSIDE, x -> x.parameter(VOID, dims, false));
        }
    }

    /** UNKNOWN before OUTSIDE, both before FULL, FULL before a RULE. */
    static void promise9_orderOfRefusals() {
        refused(Promise09ParameterTest::empty, UNKNOWN, x -> x.parameter(T + 6, 4, false));
        refused(Promise09ParameterTest::empty, UNKNOWN, x -> x.parameter(T + 6, -1, true));
        refused(PromiseTest::fullOfParameters, UNKNOWN, x -> x.parameter(T + 6, 0, false));
        refused(PromiseTest::fullOfParameters, OUTSIDE, x -> x.parameter(LINK, 0, false));
        refused(PromiseTest::fullOfParameters, OUTSIDE, x -> x.parameter(INT, 4, false));
        refused(PromiseTest::fullOfParameters, OUTSIDE, x -> x.parameter(VOID, 1, false));
        refused(PromiseTest::fullOfParameters, FULL, x -> x.parameter(VOID, 0, false));
        refused(PromiseTest::fullOfParameters, FULL, x -> x.parameter(INT, 1, true));
        refused(PromiseTest::fullOfParameters, FULL, x -> x.parameter(INT, 0, true));
    }

    /** "RULE 18 VOID", "(it stays begun)". */
    static void promise9_rule18() {
        breaks(Promise09ParameterTest::empty, 18, x -> x.parameter(VOID, 0, false));
        breaks(Promise09ParameterTest::empty, 18, x -> x.parameter(VOID, 0, true));
        breaks(PromiseTest::begun, 18, x -> x.parameter(VOID, 0, false));
    }

    /** "19 one is VARIED already": no other comes behind it, VARIED or not. */
    static void promise9_rule19() {
        breaks(Promise09ParameterTest::varied, 19, x -> x.parameter(INT, 1, true));
        breaks(Promise09ParameterTest::varied, 19, x -> x.parameter(INT, 0, false));
        breaks(Promise09ParameterTest::varied, 19, x -> x.parameter(T + 5, 3, false));
    }

    /** "20 VARIED with DIMS 0": with 1 to 3 it may be. */
    static void promise9_rule20() {
        for (int kind : new int[] {BOOLEAN, DOUBLE, T}) {
            breaks(Promise09ParameterTest::empty, 20, x -> x.parameter(kind, 0, true));
            breaks(PromiseTest::begun, 20, x -> x.parameter(kind, 0, true));
            for (int dims = 1; dims <= 3; dims++) {
                int levels = dims;
                answers(Promise09ParameterTest::empty, 1, x -> x.parameter(kind, levels, true));
            }
        }
    }

    /** The first RULE of several. */
    static void promise9_firstRule() {
        breaks(Promise09ParameterTest::varied, 18, x -> x.parameter(VOID, 0, false));
        breaks(Promise09ParameterTest::varied, 18, x -> x.parameter(VOID, 0, true));
        breaks(Promise09ParameterTest::varied, 19, x -> x.parameter(INT, 0, true));
        breaks(Promise09ParameterTest::empty, 18, x -> x.parameter(VOID, 0, true));
    }

    /** "(Such a one does not come.)": the next takes its place, and nothing is VARIED by it. */
    static void promise9_brokenDoesNotCome() {
        FieldMember x = empty();
        due(x.parameter(INT, 0, true), rule(20));
        due(x.parameter(VOID, 0, true), rule(18));
        due(x.count(2), 1);
        due(x.count(3), 0);
        due(x.parameter(LONG, 0, false), 1);
        due(x.parameter(CHAR, 0, false), 2);
        due(x.end(), 7);
        due(x.shape(7, 0), 2);
        due(x.shape(7, 1), 0);
        due(x.parameterOf(7, 0, false), LONG);
    }

    /** The fifth may be the VARIED one; a full one answers FULL, not RULE 19. */
    static void promise9_fifthVaried() {
        FieldMember x = empty();
        for (int i = 1; i <= 4; i++) {
            due(x.parameter(INT, 0, false), i);
        }
        due(x.parameter(INT, 1, true), 5);
        due(x.parameter(INT, 0, false), FULL);
        due(x.end(), 7);
        due(x.shape(7, 1), 1);
    }

    /** Each MEMBER begins anew: neither how many nor VARIED goes over to the next one. */
    static void promise9_anewForEach() {
        FieldMember x = fullOfParameters();
        due(x.end(), 7);
        due(x.member(5, 3, INT, 0, 0, true), 1);
        due(x.count(3), 0);
        due(x.parameter(INT, 1, true), 1);
        due(x.end(), 8);
        due(x.shape(7, 0), 5);
        due(x.parameterOf(7, 0, false), T + 5);
        due(x.member(5, 4, INT, 0, 0, true), 1);
        due(x.parameter(INT, 0, false), 1);
        due(x.parameter(INT, 0, false), 2);
    }

    static void promise9_inOneRun() {
        FieldMember x = with(CLASS, NONE);
        due(x.parameter(T + 1, 9, true), STATE);
        x.member(0, 0, VOID, 0, 0, true);
        due(x.parameter(T + 1, 9, true), UNKNOWN);
        due(x.parameter(MAX, 0, false), UNKNOWN);
        due(x.parameter(-1, 0, true), OUTSIDE);
        due(x.parameter(LINK, 0, true), OUTSIDE);
        due(x.parameter(INT, -1, true), OUTSIDE);
        due(x.parameter(INT, 4, true), OUTSIDE);
        due(x.parameter(VOID, 1, true), OUTSIDE);
        due(x.parameter(VOID, 0, true), rule(18));
        due(x.parameter(VOID, 0, false), rule(18));
        due(x.parameter(INT, 0, true), rule(20));
        due(x.count(2), 1);
        due(x.count(3), 0);
        due(x.parameter(T, 3, false), 1);
        due(x.parameter(INT, 1, true), 2);
        due(x.parameter(VOID, 0, false), rule(18));
        due(x.parameter(INT, 0, false), rule(19));
        due(x.parameter(INT, 0, true), rule(19));
        due(x.parameter(INT, 1, true), rule(19));
        due(x.count(3), 2);
        due(x.end(), 0);
        due(x.shape(0, 0), 2);
        due(x.shape(0, 1), 1);
        due(x.broken(18), 3);
        due(x.broken(19), 3);
        due(x.broken(20), 1);
        x.member(0, 1, VOID, 0, 0, true);
        for (int i = 1; i <= 5; i++) {
            due(x.parameter(INT, 1, i == 5), i);
        }
        due(x.parameter(INT, 0, false), FULL);
        due(x.parameter(VOID, 0, false), FULL);
        due(x.parameter(LINK, 0, false), OUTSIDE);
        due(x.parameter(T + 1, 0, false), UNKNOWN);
        due(x.end(), 1);
        // Neither PARAMETERS nor VARIED are left over for the next one.
        x.member(0, 2, VOID, 0, 0, true);
        due(x.parameter(INT, 0, false), 1);
        due(x.end(), 2);
        due(x.shape(2, 1), 0);
    }
}
