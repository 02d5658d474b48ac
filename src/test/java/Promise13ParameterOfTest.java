public final class Promise13ParameterOfTest extends PromiseTest {
    public static void main(String[] args) {
        run(Promise13ParameterOfTest.class);
    }

    /** ENTRY 0 is a FIELD, 1 has no PARAMETERS, 2 has five. */
    private static FieldMember scene() {
        FieldMember x = with(CLASS, NONE, CLASS, NONE);
        x.field(0, 0, INT, 0, 0);
        make(x, 0, 0, VOID, 0, true);
        makeVaried(x, 0, 0, BOOLEAN, 0, DOUBLE, 1, T, 2, T + 1, 3, LONG, 1);
        return x;
    }

    private static void thrown(int want, int entry, int i) {
        for (int dims = 0; dims <= 1; dims++) {
            boolean asked = dims == 1;
            FieldMember x = scene();
            due(thrownBy(x, y -> y.parameterOf(entry, i, asked)), want);
            sameStory(story(x, 0), story(scene(), 0));
        }
    }

    /** "KIND (dims = false) or DIMS of PARAMETER i": the first to the last. */
    static void promise13_kindsAndDims() {
        int[] kinds = {BOOLEAN, DOUBLE, T, T + 1, LONG};
        int[] dims = {0, 1, 2, 3, 1};
        FieldMember x = scene();
        for (int i = 0; i < 5; i++) {
            due(x.parameterOf(2, i, false), kinds[i]);
            due(x.parameterOf(2, i, true), dims[i]);
        }
    }

    /** "ClassCastException: a FIELD", whatever i is. */
    static void promise13_classCast() {
        for (int i : new int[] {0, -1, 5, MIN, MAX}) {
            thrown(CAST_THROWN, 0, i);
        }
    }

    /** "ArrayIndexOutOfBoundsException: no such ENTRY". */
    static void promise13_noSuchEntry() {
        for (int entry : new int[] {-1, 3, 59, 60, MIN, MAX}) {
            thrown(INDEX_THROWN, entry, 0);
            thrown(INDEX_THROWN, entry, -1);
        }
        due(thrownBy(fullOfEntries(), x -> x.parameterOf(60, 0, false)), INDEX_THROWN);
        due(thrownBy(begun(), x -> x.parameterOf(7, 0, false)), INDEX_THROWN);
    }

    /** "PARAMETER": the first that is not there, of one with five and of one with none. */
    static void promise13_noSuchParameter() {
        for (int i : new int[] {-1, 5, 6, MIN, MAX}) {
            thrown(INDEX_THROWN, 2, i);
        }
        thrown(INDEX_THROWN, 1, 0);
        thrown(INDEX_THROWN, 1, -1);
        thrown(NOTHING_THROWN, 2, 0);
        thrown(NOTHING_THROWN, 2, 4);
    }

    /** PARAMETERS of a longer one before do not show behind those of a shorter one. */
    static void promise13_notOfAnother() {
        FieldMember x = scene();
        due(make(x, 0, 1, VOID, 0, true, INT, 0), 3);
        due(x.parameterOf(3, 0, false), INT);
        due(thrownBy(x, y -> y.parameterOf(3, 1, false)), INDEX_THROWN);
    }

    static void promise13_inOneRun() {
        FieldMember x = with(CLASS, NONE);
        x.field(0, 0, INT, 0, 0);
        due(make(x, 0, 0, VOID, 0, true), 1);
        due(makeVaried(x, 0, 0, T, 0, DOUBLE, 2, T, 3), 2);
        int[] kinds = {T, DOUBLE, T};
        int[] dims = {0, 2, 3};
        for (int i = 0; i < 3; i++) {
            due(x.parameterOf(2, i, false), kinds[i]);
            due(x.parameterOf(2, i, true), dims[i]);
        }
        due(thrownBy(x, of -> of.parameterOf(2, 3, true)), INDEX_THROWN);
        due(thrownBy(x, of -> of.parameterOf(2, -1, false)), INDEX_THROWN);
        due(thrownBy(x, of -> of.parameterOf(2, MAX, false)), INDEX_THROWN);
        due(thrownBy(x, of -> of.parameterOf(1, 0, false)), INDEX_THROWN);
        due(thrownBy(x, of -> of.parameterOf(0, 0, false)), CAST_THROWN);
        due(thrownBy(x, of -> of.parameterOf(0, -1, true)), CAST_THROWN);
        due(thrownBy(x, of -> of.parameterOf(3, 0, false)), INDEX_THROWN);
        due(thrownBy(x, of -> of.parameterOf(-1, 0, true)), INDEX_THROWN);
        due(thrownBy(x, of -> of.parameterOf(MIN, MIN, true)), INDEX_THROWN);
        due(thrownBy(x, of -> of.parameterOf(2, 0, true)), 0);
    }
}
