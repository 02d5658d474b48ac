public final class Promise20BrokenTest extends PromiseTest {
    public static void main(String[] args) {
        run(Promise20BrokenTest.class);
    }

    /** "OUTSIDE: it is not 1 .. 25". */
    static void promise20_outside() {
        for (int number : new int[] {0, -1, 26, 27, -41, MIN, MAX}) {
            refused(PromiseTest::furnished, OUTSIDE, x -> x.broken(number));
            refused(PromiseTest::bare, OUTSIDE, x -> x.broken(number));
        }
        answers(PromiseTest::bare, 0, x -> x.broken(1));
        answers(PromiseTest::bare, 0, x -> x.broken(25));
    }

    /** Breaks that RULE once; NONE if nothing breaks it. */
    private static int breakIt(FieldMember x, int number) {
        switch (number) {
            case 1: return x.field(0, 9, INT, 0, ABSTRACT);
            case 2: return x.field(0, 9, INT, 0, PUBLIC | PRIVATE);
            case 3: return x.field(0, 9, INT, 0, FINAL | VOLATILE);
            case 4: return x.field(1, 9, INT, 0, PRIVATE);
            case 5: return x.field(0, 9, VOID, 0, 0);
            case 6: return x.field(0, 0, INT, 0, 0);
            case 7: return x.constant(0, 128);
            case 11: return x.member(0, 9, INT, 0, VOLATILE, true);
            case 12: return x.member(0, 9, INT, 0, PUBLIC | PRIVATE, true);
            case 13: return x.member(0, 9, INT, 0, DEFAULT, true);
            case 14: return x.member(0, 9, INT, 0, ABSTRACT | STATIC, false);
            case 15: return x.member(0, 9, INT, 0, ABSTRACT, false);
            case 16: return x.member(0, 9, INT, 0, NATIVE, true);
            case 17: return x.member(0, 9, INT, 0, 0, false);
            case 21: return make(x, 0, 1, INT, 0, true);
            case 22: return make(x, 2, 2, INT, 0, true);
            case 23: return make(x, 2, 1, INT, STATIC, true);
            case 24: return make(x, 2, 1, LONG, 0, true);
            case 25: return make(x, 2, 3, INT, 0, true);
            default: return NONE;
        }
    }

    private static FieldMember scene() {
        FieldMember x = with(CLASS, NONE, FACE, NONE, CLASS, 0);
        x.field(0, 0, BYTE, 0, FINAL);
        make(x, 0, 1, INT, 0, true);
        make(x, 0, 2, INT, FINAL, true);
        make(x, 0, 3, INT, PUBLIC, true);
        return x;
    }

    /** "How often that RULE was broken": each is counted under its own number, and under no other. */
    static void promise20_eachByItself() {
        for (int number = 1; number <= 25; number++) {
            FieldMember x = scene();
            int answer = breakIt(x, number);
            if (answer != NONE) {
                due(answer, rule(number));
                due(breakIt(x, number), rule(number));
                for (int other = 1; other <= 25; other++) {
                    due(x.broken(other), other == number ? 2 : 0);
                }
                due(x.count(5), 2);
            }
        }
    }

    /** Those of PARAMETERS likewise. */
    static void promise20_ofParameters() {
        FieldMember x = scene();
        x.member(0, 9, INT, 0, 0, true);
        due(x.parameter(VOID, 0, false), rule(18));
        due(x.parameter(INT, 0, true), rule(20));
        due(x.parameter(INT, 0, true), rule(20));
        x.parameter(INT, 1, true);
        for (int i = 0; i < 3; i++) {
            due(x.parameter(INT, 0, false), rule(19));
        }
        for (int number = 1; number <= 25; number++) {
            due(x.broken(number), number == 18 ? 1 : number == 19 ? 3 : number == 20 ? 2 : 0);
        }
    }

    /** There are no RULES 8, 9, 10: they are in 1 .. 25, and never broken. */
    static void promise20_neverBroken() {
        FieldMember x = scene();
        for (int number = 1; number <= 25; number++) {
            breakIt(x, number);
        }
        for (int number = 8; number <= 10; number++) {
            due(x.broken(number), 0);
        }
        due(x.count(5), 19);
    }

    /** A call that breaks several counts the first alone. */
    static void promise20_onlyTheFirst() {
        FieldMember x = scene();
        due(x.field(1, 9, VOID, 0, 2047), rule(1));
        for (int number = 1; number <= 25; number++) {
            due(x.broken(number), number == 1 ? 1 : 0);
        }
    }

    /** What is refused breaks no RULE. */
    static void promise20_notByRefusals() {
        FieldMember x = scene();
        x.field(3, 9, VOID, 0, 0);
        x.field(0, 50, VOID, 0, 0);
        x.field(0, 9, VOID, 1, 0);
        x.member(0, 9, INT, 0, 0, true);
        x.field(0, 9, VOID, 0, 2047);
        x.member(0, 9, INT, 0, VOLATILE, true);
        x.parameter(LINK, 0, true);
        for (int number = 1; number <= 25; number++) {
            due(x.broken(number), 0);
        }
        due(x.count(5), 0);
    }

    static void promise20_inOneRun() {
        FieldMember x = with(CLASS, NONE);
        for (int number = 1; number <= 25; number++) {
            due(x.broken(number), 0);
        }
        due(x.broken(0), OUTSIDE);
        due(x.broken(26), OUTSIDE);
        due(x.broken(-1), OUTSIDE);
        due(x.broken(MIN), OUTSIDE);
        due(x.broken(MAX), OUTSIDE);
        x.field(0, 0, VOID, 0, 0);
        x.field(0, 0, VOID, 0, 0);
        make(x, 0, 0, INT, 0, true);
        make(x, 0, 0, INT, 0, true);
        // What is refused breaks no RULE.
        x.field(0, 50, VOID, 0, 0);
        for (int number = 1; number <= 25; number++) {
            due(x.broken(number), number == 5 ? 2 : number == 21 ? 1 : 0);
        }
        due(x.count(5), 3);
    }
}
