public final class Promise04BelowTest extends PromiseTest {
    public static void main(String[] args) {
        run(Promise04BelowTest.class);
    }

    /** "UNKNOWN": either of both, the first number that is not there, and less than 0. */
    static void promise4_unknown() {
        for (int type : new int[] {-1, -2, 6, 7, 11, 12, MIN, MAX}) {
            refused(PromiseTest::furnished, UNKNOWN, x -> x.below(type, 0));
            refused(PromiseTest::furnished, UNKNOWN, x -> x.below(0, type));
            refused(PromiseTest::furnished, UNKNOWN, x -> x.below(type, type));
        }
        refused(PromiseTest::fullOfTypes, UNKNOWN, x -> x.below(12, 12));
        answers(PromiseTest::fullOfTypes, 1, x -> x.below(11, 11));
    }

    /** "and itself", each SORT. */
    static void promise4_itself() {
        for (int t = 0; t < 6; t++) {
            int type = t;
            answers(PromiseTest::sorts, 1, x -> x.below(type, type));
        }
    }

    /** "BELOW its PARENT and its FACES, what these are BELOW": and nothing else. */
    static void promise4_parentsAndFacesAndTheirs() {
        String[] below = {"0", "01", "2", "0123", "01234", "5"};
        FieldMember x = sorts();
        for (int t = 0; t < 6; t++) {
            for (int other = 0; other < 6; other++) {
                due(x.below(t, other), below[t].indexOf('0' + other) >= 0 ? 1 : 0);
            }
        }
    }

    /** The longest way up: eleven PARENTS, eleven FACES; never downwards. */
    static void promise4_longestWay() {
        FieldMember x = with(CLASS, NONE);
        FieldMember y = with(FACE, NONE);
        for (int t = 1; t < 12; t++) {
            x.type(CLASS, t - 1);
            y.type(FACE, NONE);
        }
        // The upper FACES last: what is below must not be known from before.
        for (int t = 11; t > 0; t--) {
            due(y.face(t, t - 1), 1);
        }
        for (int t = 0; t < 12; t++) {
            due(x.below(11, t), 1);
            due(x.below(t, 11), t == 11 ? 1 : 0);
            due(x.below(t, 0), 1);
            due(y.below(11, t), 1);
            due(y.below(t, 11), t == 11 ? 1 : 0);
            due(y.below(t, 0), 1);
        }
    }

    /** Through all three FACES, and through the PARENT's, the FACES' FACES. */
    static void promise4_throughAllThree() {
        FieldMember x = with(FACE, NONE, FACE, NONE, FACE, NONE, FACE, NONE, CLASS, NONE, CLASS, 4);
        x.face(3, 0);
        x.face(4, 1);
        x.face(4, 2);
        x.face(4, 3);
        for (int t = 0; t <= 4; t++) {
            due(x.below(5, t), 1);
            due(x.below(4, t), 1);
        }
        due(x.below(4, 5), 0);
        due(x.below(3, 1), 0);
    }

    /** Two of one PARENT are not BELOW one another. */
    static void promise4_notAside() {
        FieldMember x = with(CLASS, NONE, CLASS, 0, CLASS, 0);
        due(x.below(1, 2), 0);
        due(x.below(2, 1), 0);
        due(x.below(2, 0), 1);
    }

    static void promise4_inOneRun() {
        FieldMember x = with(FACE, NONE, FACE, NONE, CLASS, NONE, ABSTRACT_CLASS, 2, FINAL_CLASS, 3, FACE, NONE);
        due(x.below(0, 0), 1);
        due(x.below(4, 2), 1);
        due(x.below(4, 3), 1);
        due(x.below(2, 4), 0);
        due(x.below(4, 0), 0);
        due(x.below(6, 0), UNKNOWN);
        due(x.below(0, 6), UNKNOWN);
        due(x.below(-1, 0), UNKNOWN);
        due(x.below(0, -1), UNKNOWN);
        due(x.below(MAX, MIN), UNKNOWN);
        // FACES that come to a TYPE late reach what is below it already.
        x.face(2, 1);
        due(x.below(4, 1), 1);
        due(x.below(4, 0), 0);
        x.face(1, 0);
        due(x.below(4, 0), 1);
        due(x.below(3, 0), 1);
        due(x.below(5, 0), 0);
        due(x.below(0, 1), 0);
        due(x.type(CLASS, 3), 6);
        due(x.below(6, 0), 1);
        due(x.below(6, 4), 0);
    }
}
