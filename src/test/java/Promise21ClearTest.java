public final class Promise21ClearTest extends PromiseTest {
    public static void main(String[] args) {
        run(Promise21ClearTest.class);
    }

    /** "how many ENTRIES there were": none, some, sixty; one that is begun is none. */
    static void promise21_howMany() {
        answers(PromiseTest::bare, 0, FieldMember::clear);
        answers(PromiseTest::sorts, 0, FieldMember::clear);
        answers(PromiseTest::furnished, 7, FieldMember::clear);
        answers(PromiseTest::begun, 7, FieldMember::clear);
        answers(PromiseTest::fullButOne, 59, FieldMember::clear);
        answers(PromiseTest::fullOfEntries, 60, FieldMember::clear);
    }

    /** "All is gone": what is told of it then is what is told of a new one. */
    static void promise21_asNew() {
        Scene[] scenes = {PromiseTest::bare, PromiseTest::sorts, PromiseTest::furnished, PromiseTest::begun,
            PromiseTest::fullOfParameters, PromiseTest::fullOfArguments, PromiseTest::fullOfTypes, PromiseTest::fullOfEntries};
        for (Scene scene : scenes) {
            FieldMember x = scene.made();
            x.clear();
            due(x.clear(), 0);
            sameStory(story(x, 0), story(bare(), 0));
        }
    }

    private static FieldMember again(FieldMember x) {
        x.type(CLASS, NONE);
        x.type(CLASS, 0);
        x.type(FACE, NONE);
        x.field(0, 0, LONG, 0, FINAL);
        x.member(1, 5, INT, 0, 0, true);
        x.parameter(INT, 0, false);
        x.end();
        x.argument(INT, 0);
        return x;
    }

    /** What is built anew has nothing of what was there: no FACES, CONSTANTS, PARAMETERS, VARIED, arguments. */
    static void promise21_builtAnew() {
        Scene[] scenes = {PromiseTest::sorts, PromiseTest::furnished, PromiseTest::begun, PromiseTest::fullOfParameters,
            PromiseTest::fullOfArguments, PromiseTest::fullOfTypes, PromiseTest::fullOfEntries};
        for (Scene scene : scenes) {
            FieldMember x = scene.made();
            x.clear();
            sameStory(story(again(x), 0), story(again(bare()), 0));
        }
    }

    /** "also counts": every RULE's, their sum, the way. */
    static void promise21_counts() {
        FieldMember x = with(CLASS, NONE, CLASS, 0);
        x.field(0, 0, INT, 0, ABSTRACT);
        makeVaried(x, 0, 0, INT, 1);
        x.call(0, 0);
        x.member(1, 0, INT, 0, 0, true);
        x.parameter(VOID, 0, false);
        x.parameter(INT, 1, true);
        due(x.end(), rule(24));
        due(x.member(1, 0, VOID, 0, 0, true), 1);
        x.parameter(INT, 1, true);
        due(x.end(), rule(25));
        due(x.count(5), 4);
        due(x.way(), 2);
        due(x.clear(), 1);
        due(x.count(5), 0);
        due(x.way(), 0);
        for (int number = 1; number <= 25; number++) {
            due(x.broken(number), 0);
        }
    }

    /** Room for twelve TYPES and sixty ENTRIES again. */
    static void promise21_roomAgain() {
        FieldMember x = fullOfEntries();
        due(x.clear(), 60);
        for (int t = 0; t < 12; t++) {
            due(x.type(CLASS, NONE), t);
        }
        due(x.type(CLASS, NONE), FULL);
        for (int e = 0; e < 60; e++) {
            due(x.field(e % 12, e / 12, INT, 0, 0), e);
        }
        due(x.field(0, 49, INT, 0, 0), FULL);
        due(x.clear(), 60);
        due(x.count(0), 0);
    }

    /** FACES may come again, for there is no ENTRY and no MEMBER is begun. */
    static void promise21_facesAgain() {
        FieldMember x = begun();
        x.clear();
        due(x.type(FACE, NONE), 0);
        due(x.type(FACE, NONE), 1);
        due(x.below(1, 0), 0);
        due(x.face(1, 0), 1);
        due(x.below(1, 0), 1);
    }

    static void promise21_inOneRun() {
        FieldMember x = with(FACE, NONE, CLASS, NONE, CLASS, 1);
        x.face(1, 0);
        x.field(1, 0, INT, 0, FINAL);
        x.constant(0, 7);
        x.field(1, 0, INT, 0, 0);
        make(x, 1, 0, VOID, 0, true);
        x.call(1, 0);
        x.argument(INT, 0);
        x.member(1, 1, VOID, 0, 0, true);
        x.parameter(INT, 1, true);
        due(x.clear(), 2);
        for (int what = 0; what <= 5; what++) {
            due(x.count(what), 0);
        }
        due(x.broken(6), 0);
        due(x.way(), 0);
        due(x.end(), STATE);
        due(x.entry(0, 0), UNKNOWN);
        due(x.below(0, 0), UNKNOWN);
        due(x.argument(T, 0), UNKNOWN);
        due(x.clear(), 0);
        due(x.type(CLASS, NONE), 0);
        due(x.type(CLASS, NONE), 1);
        due(x.type(CLASS, 0), 2);
        due(x.below(1, 0), 0);
        due(x.below(2, 1), 0);
        due(x.type(FACE, NONE), 3);
        due(x.type(CLASS, NONE), 4);
        due(x.face(4, 3), 1);
        due(x.call(0, 0), NONE);
        due(x.sought(1, 0), NONE);
        due(x.field(1, 0, INT, 0, FINAL), 0);
        due(x.value(0), 0);
        due(x.constant(0, 8), 1);
        due(make(x, 1, 0, VOID, 0, true), 1);
        due(x.shape(1, 0), 0);
        due(x.shape(1, 1), 0);
        due(x.clear(), 2);
    }

    static void promise21_countsInOneRun() {
        FieldMember x = with(CLASS, NONE, CLASS, 0);
        x.field(0, 0, INT, 0, ABSTRACT);
        make(x, 0, 0, INT, PUBLIC, true);
        due(make(x, 1, 0, INT, 0, true), rule(25));
        due(x.broken(1), 1);
        due(x.broken(25), 1);
        due(x.clear(), 1);
        for (int number = 1; number <= 25; number++) {
            due(x.broken(number), 0);
        }
    }

    static void promise21_afterAFullObject() {
        FieldMember x = with(ABSTRACT_CLASS, NONE);
        for (int t = 1; t < 12; t++) {
            x.type(t == 11 ? FINAL_CLASS : CLASS, t - 1);
        }
        for (int e = 0; e < 50; e++) {
            due(x.field(0, e, INT, 0, 0), e);
        }
        for (int e = 50; e < 58; e++) {
            due(makeVaried(x, e - 46, 0, T, 1), e);
        }
        due(make(x, 0, 1, VOID, ABSTRACT, false, T + 11, 3), 58);
        due(make(x, 11, 2, VOID, 0, true, T + 11, 0, T, 0, T, 0, T, 0, T, 0), 59);
        due(x.entry(60, 0), UNKNOWN);
        due(x.shape(60, 0), UNKNOWN);
        due(x.constant(60, 0), UNKNOWN);
        due(thrownBy(x, of -> of.value(60)), INDEX_THROWN);
        due(thrownBy(x, of -> of.parameterOf(60, 0, true)), INDEX_THROWN);
        due(thrownBy(x, of -> of.parameterOf(59, 5, true)), INDEX_THROWN);
        due(x.parameterOf(59, 4, false), T);
        due(x.below(11, 0), 1);
        due(x.below(12, 0), UNKNOWN);
        due(x.argument(T + 11, 0), 1);
        due(x.argument(T + 12, 0), UNKNOWN);
        due(x.call(11, 0), 57);
        due(x.call(3, 0), NONE);
        due(ask(x, 11, 2, T + 11, 0, T + 11, 0, T + 1, 0, LINK, 0, T, 0), 59);
        due(x.sought(11, 49), 49);
        due(x.lacks(11, 0), 58);
        due(x.lacks(11, 1), NONE);
        due(x.field(0, 49, INT, 0, 0), FULL);
        due(x.member(0, 49, INT, 0, 0, true), FULL);
        due(x.clear(), 60);
        due(x.sought(0, 0), UNKNOWN);
    }
}
