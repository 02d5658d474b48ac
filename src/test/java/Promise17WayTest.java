public final class Promise17WayTest extends PromiseTest {
    public static void main(String[] args) {
        run(Promise17WayTest.class);
    }

    /** ENTRY 0 takes nothing, NAME 0; 1 is VARIED, NAME 1; 2 and 3 make a CLASH, NAME 2. */
    private static FieldMember scene() {
        FieldMember x = with(CLASS, NONE);
        make(x, 0, 0, VOID, 0, true);
        makeVaried(x, 0, 1, INT, 1);
        makeVaried(x, 0, 2, INT, 1);
        makeVaried(x, 0, 2, BOOLEAN, 1);
        return x;
    }

    /** "none yet": 0. */
    static void promise17_noneYet() {
        answers(PromiseTest::bare, 0, FieldMember::way);
        answers(Promise17WayTest::scene, 0, FieldMember::way);
        FieldMember x = scene();
        x.call(1, 0);
        x.call(0, 50);
        due(x.way(), 0);
    }

    /** "1 as many, 2 by VARIED", each after the other. */
    static void promise17_asManyOrByVaried() {
        FieldMember x = scene();
        due(x.call(0, 0), 0);
        due(x.way(), 1);
        due(x.call(0, 1), 1);
        due(x.way(), 2);
        due(ask(x, 0, 1, INT, 1), 1);
        due(x.way(), 1);
        due(ask(x, 0, 1, INT, 0), 1);
        due(x.way(), 2);
    }

    /** "what it answered (0 or more)": ENTRY 0 is one. */
    static void promise17_entry0() {
        FieldMember x = with(CLASS, NONE);
        makeVaried(x, 0, 0, INT, 1);
        due(x.call(0, 0), 0);
        due(x.way(), 2);
        due(ask(x, 0, 0, INT, 1), 0);
        due(x.way(), 1);
    }

    /** "0: NONE". */
    static void promise17_none() {
        for (int name = 0; name <= 1; name++) {
            FieldMember x = scene();
            x.call(0, name);
            due(x.way(), name + 1);
            due(x.call(0, 9), NONE);
            due(x.way(), 0);
        }
    }

    /** "CLASH": of those with as many, and of VARIED ones. */
    static void promise17_clash() {
        FieldMember x = scene();
        x.call(0, 1);
        due(x.call(0, 2), CLASH);
        due(x.way(), 0);
        make(x, 0, 3, VOID, 0, true, INT, 0, LONG, 0);
        make(x, 0, 3, VOID, 0, true, LONG, 0, INT, 0);
        x.call(0, 0);
        due(ask(x, 0, 3, INT, 0, INT, 0), CLASH);
        due(x.way(), 0);
    }

    /** A refused call changes nothing, the way neither. */
    static void promise17_refusedCall() {
        for (int name = 0; name <= 1; name++) {
            FieldMember x = scene();
            x.call(0, name);
            due(x.call(1, 0), UNKNOWN);
            due(x.way(), name + 1);
            due(x.call(0, 50), OUTSIDE);
            due(x.call(0, -1), OUTSIDE);
            due(x.way(), name + 1);
        }
    }

    /** "the latest call()": nothing else changes it, asking neither. */
    static void promise17_stays() {
        FieldMember x = scene();
        x.call(0, 1);
        x.argument(INT, 0);
        x.sought(0, 0);
        x.lacks(0, 0);
        x.field(0, 0, INT, 0, 0);
        make(x, 0, 0, VOID, 0, true);
        make(x, 0, 5, VOID, 0, true);
        x.type(CLASS, NONE);
        due(x.way(), 2);
        due(x.way(), 2);
    }

    /** After clear there is none yet. */
    static void promise17_clear() {
        FieldMember x = scene();
        x.call(0, 1);
        x.clear();
        due(x.way(), 0);
    }

    static void promise17_inOneRun() {
        FieldMember x = with(CLASS, NONE);
        due(x.way(), 0);
        make(x, 0, 0, VOID, 0, true);
        makeVaried(x, 0, 1, INT, 1);
        makeVaried(x, 0, 2, INT, 1);
        makeVaried(x, 0, 2, BOOLEAN, 1);
        x.call(0, 0);
        due(x.way(), 1);
        due(x.way(), 1);
        x.call(0, 1);
        due(x.way(), 2);
        // A refused one changes nothing.
        due(x.call(1, 1), UNKNOWN);
        due(x.way(), 2);
        due(x.call(0, 50), OUTSIDE);
        due(x.way(), 2);
        due(x.call(0, 2), CLASH);
        due(x.way(), 0);
        x.call(0, 1);
        due(x.call(0, 9), NONE);
        due(x.way(), 0);
        x.call(0, 1);
        x.clear();
        due(x.way(), 0);
    }
}
