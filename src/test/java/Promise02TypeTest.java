public final class Promise02TypeTest extends PromiseTest {
    public static void main(String[] args) {
        run(Promise02TypeTest.class);
    }

    /** "A TYPE: its number": 0, 1, .. as they come, of all SORTS. */
    static void promise2_numbersAsTheyCome() {
        FieldMember x = bare();
        for (int t = 0; t < 12; t++) {
            due(x.type(t % 4, NONE), t);
            due(x.count(0), t + 1);
        }
    }

    /** "a SORT: 0 .. 3": the first and the last, and those beyond. */
    static void promise2_sortsFrom0To3() {
        for (int sort = 0; sort <= 3; sort++) {
            int allowed = sort;
            answers(PromiseTest::sorts, 6, x -> x.type(allowed, NONE));
        }
        for (int sort : new int[] {-1, 4, 5, MIN, MAX}) {
            refused(PromiseTest::sorts, OUTSIDE, x -> x.type(sort, NONE));
            refused(PromiseTest::bare, OUTSIDE, x -> x.type(sort, NONE));
        }
    }

    /** "(OUTSIDE first.)": before UNKNOWN and FULL. */
    static void promise2_outsideFirst() {
        refused(PromiseTest::sorts, OUTSIDE, x -> x.type(4, 6));
        refused(PromiseTest::sorts, OUTSIDE, x -> x.type(-1, 0));
        refused(PromiseTest::fullOfTypes, OUTSIDE, x -> x.type(4, NONE));
        refused(PromiseTest::fullOfTypes, OUTSIDE, x -> x.type(-1, 12));
    }

    /** "UNKNOWN: the PARENT": an earlier one, the first and the latest, not the next one, which is itself. */
    static void promise2_parentsAreEarlier() {
        answers(() -> with(CLASS, NONE, CLASS, NONE, CLASS, NONE), 3, x -> x.type(CLASS, 0));
        answers(() -> with(CLASS, NONE, CLASS, NONE, CLASS, NONE), 3, x -> x.type(CLASS, 2));
        for (int parent : new int[] {3, 4, 11, 12, CLASH, UNKNOWN, MIN, MAX}) {
            refused(() -> with(CLASS, NONE, CLASS, NONE, CLASS, NONE), UNKNOWN, x -> x.type(CLASS, parent));
        }
    }

    /** "NONE: none". */
    static void promise2_noneIsNoParent() {
        for (int sort = 0; sort <= 3; sort++) {
            FieldMember x = with(CLASS, NONE, FACE, NONE);
            due(x.type(sort, NONE), 2);
            due(x.below(2, 0), 0);
            due(x.below(2, 1), 0);
        }
    }

    /** "of a FACE anything else": a FACE has no PARENT, of whatever SORT, be it there or not. */
    static void promise2_facesHaveNoParent() {
        for (int parent : new int[] {0, 1, 2, 3, 4, 5, 6, 12, CLASH, MIN, MAX}) {
            refused(PromiseTest::sorts, UNKNOWN, x -> x.type(FACE, parent));
        }
        answers(PromiseTest::sorts, 6, x -> x.type(FACE, NONE));
    }

    /** "a FINAL one, a FACE": no PARENTS, for any SORT of class; a class and an ABSTRACT one are. */
    static void promise2_parentsAreClassesNotFinal() {
        for (int sort = 0; sort <= 2; sort++) {
            int child = sort;
            refused(PromiseTest::sorts, UNKNOWN, x -> x.type(child, 0));
            refused(PromiseTest::sorts, UNKNOWN, x -> x.type(child, 1));
            refused(PromiseTest::sorts, UNKNOWN, x -> x.type(child, 4));
            answers(PromiseTest::sorts, 6, x -> x.type(child, 2));
            answers(PromiseTest::sorts, 6, x -> x.type(child, 3));
        }
    }

    /** "TYPES 0 .. 11", "FULL": the twelfth comes, the thirteenth does not, of whatever SORT. */
    static void promise2_twelveAreFull() {
        FieldMember x = fullOfTypes();
        due(x.count(0), 12);
        for (int sort = 0; sort <= 3; sort++) {
            int more = sort;
            refused(PromiseTest::fullOfTypes, FULL, y -> y.type(more, NONE));
        }
        refused(PromiseTest::fullOfTypes, FULL, y -> y.type(CLASS, 11));
        due(with(0, -1, 0, -1, 0, -1, 0, -1, 0, -1, 0, -1, 0, -1, 0, -1, 0, -1, 0, -1, 0, -1).type(CLASS, 10), 11);
    }

    /** The PARENT is looked at before FULL. */
    static void promise2_unknownBeforeFull() {
        refused(PromiseTest::fullOfTypes, UNKNOWN, x -> x.type(CLASS, 12));
        refused(PromiseTest::fullOfTypes, UNKNOWN, x -> x.type(CLASS, CLASH));
        refused(PromiseTest::fullOfTypes, UNKNOWN, x -> x.type(CLASS, 4));
        refused(PromiseTest::fullOfTypes, UNKNOWN, x -> x.type(CLASS, 0));
        refused(PromiseTest::fullOfTypes, UNKNOWN, x -> x.type(FACE, 5));
    }

    /** A refused one takes no number: the next one has it. */
    static void promise2_refusedTakesNoNumber() {
        FieldMember x = with(FACE, NONE);
        due(x.type(4, NONE), OUTSIDE);
        due(x.type(CLASS, 0), UNKNOWN);
        due(x.type(FACE, 0), UNKNOWN);
        due(x.count(0), 1);
        due(x.type(CLASS, NONE), 1);
    }

    /** Nothing else refuses it: neither ENTRIES nor a MEMBER that is begun, which stay as they are. */
    static void promise2_alsoWhileAMemberIsBegun() {
        FieldMember x = begun();
        due(x.type(CLASS, 3), 6);
        due(x.below(6, 0), 1);
        due(x.count(2), 1);
        due(x.count(3), 2);
        due(x.count(4), 2);
        due(x.parameter(T + 6, 0, false), 3);
        due(x.end(), 7);
        due(x.type(FACE, NONE), 7);
        due(x.sought(6, 0), CLASH);
    }

    static void promise2_inOneRun() {
        FieldMember x = new FieldMember();
        due(x.type(-1, NONE), OUTSIDE);
        due(x.type(4, NONE), OUTSIDE);
        due(x.type(4, 77), OUTSIDE);
        due(x.type(MIN, MIN), OUTSIDE);
        due(x.type(CLASS, 0), UNKNOWN);
        due(x.type(CLASS, CLASH), UNKNOWN);
        due(x.type(CLASS, MAX), UNKNOWN);
        due(x.type(CLASS, NONE), 0);
        due(x.type(ABSTRACT_CLASS, 0), 1);
        due(x.type(FINAL_CLASS, 1), 2);
        due(x.type(FACE, NONE), 3);
        due(x.type(FACE, 0), UNKNOWN);
        due(x.type(FACE, 3), UNKNOWN);
        due(x.type(FACE, CLASH), UNKNOWN);
        due(x.type(CLASS, 2), UNKNOWN);
        due(x.type(CLASS, 3), UNKNOWN);
        due(x.type(CLASS, 4), UNKNOWN);
        due(x.count(0), 4);
        for (int t = 4; t < 12; t++) {
            due(x.type(CLASS, t == 4 ? 1 : t - 1), t);
        }
        due(x.type(CLASS, NONE), FULL);
        due(x.type(FACE, NONE), FULL);
        due(x.type(4, NONE), OUTSIDE);
        due(x.type(CLASS, 12), UNKNOWN);
        due(x.type(CLASS, 2), UNKNOWN);
        due(x.count(0), 12);
        due(x.below(11, 0), 1);
        FieldMember y = with(CLASS, NONE);
        y.member(0, 0, VOID, 0, 0, true);
        due(y.type(CLASS, 0), 1);
        y.end();
        due(y.type(CLASS, 0), 2);
    }
}
