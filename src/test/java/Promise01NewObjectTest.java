import java.util.List;

public final class Promise01NewObjectTest extends PromiseTest {
    public static void main(String[] args) {
        run(Promise01NewObjectTest.class);
    }

    /** "No TYPES". */
    static void promise1_noTypes() {
        answers(PromiseTest::bare, 0, x -> x.count(0));
        for (int t = -1; t <= 12; t++) {
            int type = t;
            refused(PromiseTest::bare, UNKNOWN, x -> x.below(type, type));
            refused(PromiseTest::bare, UNKNOWN, x -> x.face(type, 0));
            refused(PromiseTest::bare, UNKNOWN, x -> x.field(type, 0, INT, 0, 0));
            refused(PromiseTest::bare, UNKNOWN, x -> x.member(type, 0, INT, 0, 0, true));
            refused(PromiseTest::bare, UNKNOWN, x -> x.sought(type, 0));
            refused(PromiseTest::bare, UNKNOWN, x -> x.call(type, 0));
            refused(PromiseTest::bare, UNKNOWN, x -> x.lacks(type, 0));
        }
        refused(PromiseTest::bare, UNKNOWN, x -> x.type(CLASS, 0));
        refused(PromiseTest::bare, UNKNOWN, x -> x.argument(T, 0));
        answers(PromiseTest::bare, 0, x -> x.type(CLASS, NONE));
    }

    /** "no ENTRIES". */
    static void promise1_noEntries() {
        answers(PromiseTest::bare, 0, x -> x.count(1));
        for (int e = -1; e <= 60; e++) {
            int entry = e;
            refused(PromiseTest::bare, UNKNOWN, x -> x.entry(entry, 0));
            refused(PromiseTest::bare, UNKNOWN, x -> x.shape(entry, 0));
            refused(PromiseTest::bare, UNKNOWN, x -> x.constant(entry, 0));
            due(thrownBy(bare(), x -> x.value(entry)), INDEX_THROWN);
            due(thrownBy(bare(), x -> x.parameterOf(entry, 0, false)), INDEX_THROWN);
        }
        answers(PromiseTest::bare, 0, FieldMember::clear);
        answers(() -> with(CLASS, NONE), 0, x -> x.field(0, 0, INT, 0, 0));
        answers(() -> with(CLASS, NONE), 0, x -> make(x, 0, 0, INT, 0, true));
    }

    /** "no MEMBER is begun". */
    static void promise1_noMemberIsBegun() {
        answers(PromiseTest::bare, 0, x -> x.count(2));
        answers(PromiseTest::bare, 0, x -> x.count(3));
        refused(PromiseTest::bare, STATE, FieldMember::end);
        refused(PromiseTest::bare, STATE, x -> x.parameter(INT, 0, false));
        answers(() -> with(CLASS, NONE), 1, x -> x.member(0, 0, INT, 0, 0, true));
        answers(() -> with(FACE, NONE, CLASS, NONE), 1, x -> x.face(1, 0));
    }

    /** Nothing waits, was found or was broken either. */
    static void promise1_nothingElse() {
        FieldMember x = bare();
        due(x.count(4), 0);
        due(x.count(5), 0);
        due(x.way(), 0);
        for (int number = 1; number <= 25; number++) {
            due(x.broken(number), 0);
        }
        due(x.argument(INT, 0), 1);
    }

    /** What one object holds is not in another one. */
    static void promise1_ofItsOwn() {
        List<String> first = story(bare(), 0);
        FieldMember held = begun();
        sameStory(story(bare(), 0), first);
        sameStory(story(held, 0), story(begun(), 0));
    }

    static void promise1_inOneRun() {
        FieldMember x = new FieldMember();
        for (int what = 0; what <= 5; what++) {
            due(x.count(what), 0);
        }
        due(x.below(0, 0), UNKNOWN);
        due(x.entry(0, 0), UNKNOWN);
        due(x.end(), STATE);
        due(x.parameter(INT, 0, false), STATE);
        due(x.way(), 0);
        due(x.broken(1), 0);
        due(x.clear(), 0);
        FieldMember other = new FieldMember();
        x.type(CLASS, NONE);
        due(other.count(0), 0);
    }
}
