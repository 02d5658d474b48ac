public final class Promise19CountTest extends PromiseTest {
    public static void main(String[] args) {
        run(Promise19CountTest.class);
    }

    /** "OUTSIDE": 0 to 5 are told. */
    static void promise19_outside() {
        for (int what : new int[] {-1, 6, 7, MIN, MAX}) {
            refused(PromiseTest::furnished, OUTSIDE, x -> x.count(what));
            refused(PromiseTest::bare, OUTSIDE, x -> x.count(what));
        }
    }

    /** Each number is told under its own number. */
    static void promise19_eachByItself() {
        int[] want = {6, 7, 1, 3, 2, 1};
        FieldMember x = begun();
        due(x.parameter(INT, 0, false), 3);
        for (int what = 0; what <= 5; what++) {
            due(x.count(what), want[what]);
        }
    }

    /** "0 TYPES": none to twelve, not more by a refused one. */
    static void promise19_types() {
        FieldMember x = bare();
        for (int t = 0; t < 12; t++) {
            due(x.count(0), t);
            x.type(4, NONE);
            x.type(CLASS, NONE);
        }
        x.type(CLASS, NONE);
        due(x.count(0), 12);
    }

    /** "1 ENTRIES": none to sixty, FIELDS and MEMBERS; one that is begun or broke a RULE is none. */
    static void promise19_entries() {
        FieldMember x = with(CLASS, NONE);
        due(x.count(1), 0);
        x.field(0, 0, INT, 0, 0);
        due(x.count(1), 1);
        x.field(0, 0, INT, 0, 0);
        due(x.count(1), 1);
        x.member(0, 0, INT, 0, 0, true);
        due(x.count(1), 1);
        x.end();
        due(x.count(1), 2);
        make(x, 0, 0, INT, 0, true);
        due(x.count(1), 2);
        due(fullButOne().count(1), 59);
        due(fullOfEntries().count(1), 60);
    }

    /** "2 whether a MEMBER is begun": 1, 0; after a RULE when it is begun 0, of a PARAMETER 1, when it is ended 0. */
    static void promise19_begun() {
        FieldMember x = with(CLASS, NONE);
        due(x.count(2), 0);
        x.member(0, 0, INT, 0, 0, false);
        due(x.count(2), 0);
        x.member(0, 0, INT, 0, 0, true);
        due(x.count(2), 1);
        x.parameter(VOID, 0, false);
        due(x.count(2), 1);
        x.end();
        due(x.count(2), 0);
        x.member(0, 0, INT, 0, 0, true);
        due(x.count(2), 1);
        due(x.end(), rule(21));
        due(x.count(2), 0);
    }

    /** "3 its PARAMETERS (0: none is)": none to five, 0 again when it is ended or gone. */
    static void promise19_parameters() {
        FieldMember x = with(CLASS, NONE);
        due(x.count(3), 0);
        x.member(0, 0, INT, 0, 0, true);
        for (int i = 0; i < 5; i++) {
            due(x.count(3), i);
            x.parameter(VOID, 0, false);
            x.parameter(INT, 0, false);
        }
        x.parameter(INT, 0, false);
        due(x.count(3), 5);
        x.end();
        due(x.count(3), 0);
        x.member(0, 1, INT, 0, 0, true);
        due(x.count(3), 0);
        x.parameter(INT, 0, false);
        x.end();
        x.member(0, 1, INT, 0, 0, true);
        x.parameter(INT, 0, false);
        due(x.count(3), 1);
        due(x.end(), rule(21));
        due(x.count(3), 0);
    }

    /** "4 arguments that wait": none to five, none after a call, as many after a refused one. */
    static void promise19_arguments() {
        FieldMember x = with(CLASS, NONE);
        for (int i = 0; i < 5; i++) {
            due(x.count(4), i);
            x.argument(VOID, 0);
            x.argument(INT, 0);
        }
        x.argument(INT, 0);
        due(x.count(4), 5);
        x.call(0, 50);
        x.call(1, 0);
        due(x.count(4), 5);
        x.call(0, 0);
        due(x.count(4), 0);
    }

    /** "5 how often a RULE was broken": every RULE once, whatever call breaks it; no refusal. */
    static void promise19_rules() {
        FieldMember x = with(CLASS, NONE);
        due(x.field(0, 0, VOID, 0, 0), rule(5));
        due(x.count(5), 1);
        x.field(0, 0, BYTE, 0, FINAL);
        due(x.constant(0, 128), rule(7));
        due(x.count(5), 2);
        due(x.member(0, 0, INT, 0, 0, false), rule(17));
        due(x.count(5), 3);
        make(x, 0, 0, INT, 0, true);
        x.member(0, 0, INT, 0, 0, true);
        due(x.parameter(VOID, 0, false), rule(18));
        due(x.count(5), 4);
        due(x.end(), rule(21));
        due(x.count(5), 5);
        x.field(0, 50, VOID, 0, 0);
        x.end();
        x.constant(9, 9);
        due(x.count(5), 5);
    }

    /** The sum goes on: 300 times. */
    static void promise19_often() {
        FieldMember x = with(CLASS, NONE);
        for (int i = 0; i < 300; i++) {
            x.field(0, 0, i % 2 == 0 ? VOID : INT, 0, i % 2 == 0 ? 0 : ABSTRACT);
        }
        due(x.count(5), 300);
        due(x.broken(5), 150);
        due(x.broken(1), 150);
    }

    static void promise19_inOneRun() {
        FieldMember x = with(CLASS, NONE, CLASS, 0);
        x.field(0, 0, INT, 0, 0);
        x.field(0, 0, INT, 0, 0);
        x.field(0, 1, VOID, 0, 0);
        due(x.count(0), 2);
        due(x.count(1), 1);
        due(x.count(2), 0);
        due(x.count(3), 0);
        due(x.count(4), 0);
        due(x.count(5), 2);
        x.member(0, 0, VOID, 0, 0, true);
        x.parameter(INT, 0, false);
        x.parameter(INT, 0, false);
        x.parameter(VOID, 0, false);
        x.argument(INT, 0);
        due(x.count(1), 1);
        due(x.count(2), 1);
        due(x.count(3), 2);
        due(x.count(4), 1);
        due(x.count(5), 3);
        x.end();
        due(x.count(1), 2);
        due(x.count(2), 0);
        due(x.count(3), 0);
        due(x.count(4), 1);
        due(x.count(-1), OUTSIDE);
        due(x.count(6), OUTSIDE);
        due(x.count(MIN), OUTSIDE);
    }
}
