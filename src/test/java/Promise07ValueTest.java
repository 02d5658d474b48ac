public final class Promise07ValueTest extends PromiseTest {
    public static void main(String[] args) {
        run(Promise07ValueTest.class);
    }

    private static long valueOf(int kind, long v) {
        FieldMember x = with(CLASS, NONE);
        x.field(0, 0, kind, 0, FINAL);
        x.constant(0, v);
        return x.value(0);
    }

    /** "A CONSTANT as a long": the least and the greatest of the whole-number KINDS, with their sign. */
    static void promise7_wholeNumbers() {
        long[][] edges = {{0, 1}, {-128, 127}, {-32768, 32767}, {0, 65535}, {MIN, MAX}, {Long.MIN_VALUE, Long.MAX_VALUE}};
        for (int kind = BOOLEAN; kind <= LONG; kind++) {
            due(valueOf(kind, edges[kind - 1][0]), edges[kind - 1][0]);
            due(valueOf(kind, edges[kind - 1][1]), edges[kind - 1][1]);
        }
        due(valueOf(LONG, 1L << 53 | 1), 1L << 53 | 1);
    }

    private static void floatDue(long v) {
        due(valueOf(FLOAT, v), Float.floatToIntBits((float) v));
    }

    private static void doubleDue(long v) {
        due(valueOf(DOUBLE, v), Double.doubleToLongBits((double) v));
    }

    /** "of float .. their bits, as Float.floatToIntBits": small ones, with the sign of an int. */
    static void promise7_floats() {
        due(valueOf(FLOAT, 0), 0);
        due(valueOf(FLOAT, 1), 0x3f800000L);
        due(valueOf(FLOAT, -1), -0x40800000L);
        due(valueOf(FLOAT, 2), 0x40000000L);
        due(valueOf(FLOAT, Long.MAX_VALUE), 0x5f000000L);
        due(valueOf(FLOAT, Long.MIN_VALUE), -0x21000000L);
        for (int v = -40; v <= 40; v++) {
            floatDue(v);
        }
    }

    /** "that which the machine's cast makes of it": nearest, to the even one in the middle, up to the next power. */
    static void promise7_floatsRounded() {
        for (int bit = 22; bit <= 62; bit++) {
            long power = 1L << bit;
            long step = bit <= 23 ? 1 : 1L << bit - 23;
            for (long k = 0; k <= 3; k++) {
                for (long off : new long[] {0, 1, step / 2 - 1, step / 2, step / 2 + 1, step - 1}) {
                    floatDue(power + k * step + off);
                    floatDue(-(power + k * step + off));
                    floatDue(2 * power - 1 - k * step - off);
                }
            }
        }
        floatDue(Long.MAX_VALUE - (1L << 38));
        floatDue(Long.MIN_VALUE + 1);
    }

    /** The same of double, as Double.doubleToLongBits. */
    static void promise7_doubles() {
        due(valueOf(DOUBLE, 0), 0);
        due(valueOf(DOUBLE, 1), 0x3ff0000000000000L);
        due(valueOf(DOUBLE, -1), 0xbff0000000000000L);
        due(valueOf(DOUBLE, Long.MAX_VALUE), 0x43e0000000000000L);
        due(valueOf(DOUBLE, Long.MIN_VALUE), 0xc3e0000000000000L);
        for (int v = -40; v <= 40; v++) {
            doubleDue(v);
        }
    }

    static void promise7_doublesRounded() {
        for (int bit = 51; bit <= 62; bit++) {
            long power = 1L << bit;
            long step = bit <= 52 ? 1 : 1L << bit - 52;
            for (long k = 0; k <= 3; k++) {
                for (long off : new long[] {0, 1, step / 2 - 1, step / 2, step / 2 + 1, step - 1}) {
                    doubleDue(power + k * step + off);
                    doubleDue(-(power + k * step + off));
                    doubleDue(2 * power - 1 - k * step - off);
                }
            }
        }
        doubleDue(Long.MAX_VALUE - 512);
        doubleDue(Long.MAX_VALUE - 511);
        doubleDue(Long.MIN_VALUE + 1);
    }

    /** "0: there is none": not told yet, broken RULE 7, a FIELD that may have none. */
    static void promise7_none() {
        FieldMember x = with(CLASS, NONE);
        x.field(0, 0, INT, 0, FINAL);
        x.field(0, 1, FLOAT, 0, 0);
        x.field(0, 2, T, 0, FINAL);
        x.field(0, 3, INT, 1, FINAL);
        due(x.value(0), 0);
        due(x.constant(0, 1L << 31), rule(7));
        due(x.value(0), 0);
        for (int e = 1; e <= 3; e++) {
            due(x.constant(e, 5), STATE);
            due(x.value(e), 0);
        }
    }

    /** "ClassCastException: a MEMBER": every one, and nothing changes. */
    static void promise7_classCast() {
        for (int entry = 3; entry <= 6; entry++) {
            int member = entry;
            FieldMember x = furnished();
            due(thrownBy(x, y -> y.value(member)), CAST_THROWN);
            sameStory(story(x, 0), story(furnished(), 0));
        }
        due(thrownBy(furnished(), x -> x.value(0)), NOTHING_THROWN);
        due(thrownBy(furnished(), x -> x.value(2)), NOTHING_THROWN);
    }

    /** "ArrayIndexOutOfBoundsException: no such ENTRY": the first that is not there, less than 0, one that is begun. */
    static void promise7_noSuchEntry() {
        for (int entry : new int[] {-1, 7, 8, 59, 60, MIN, MAX}) {
            FieldMember x = furnished();
            due(thrownBy(x, y -> y.value(entry)), INDEX_THROWN);
            sameStory(story(x, 0), story(furnished(), 0));
        }
        due(thrownBy(begun(), x -> x.value(7)), INDEX_THROWN);
        due(thrownBy(fullOfEntries(), x -> x.value(60)), INDEX_THROWN);
        due(thrownBy(fullOfEntries(), x -> x.value(59)), NOTHING_THROWN);
        FieldMember gone = furnished();
        gone.clear();
        due(thrownBy(gone, x -> x.value(0)), INDEX_THROWN);
    }

    /** Asking changes nothing: the same again. */
    static void promise7_again() {
        FieldMember x = furnished();
        due(x.value(0), 77);
        due(x.value(0), 77);
        sameStory(story(x, 0), story(furnished(), 0));
    }

    static void promise7_inOneRun() {
        FieldMember x = with(CLASS, NONE);
        long[] longs = {0, 1, -1, 2, 3, -7, 16777215, 16777216, 16777217, 16777218, 16777219, -16777219, 33554431, 33554433,
            33554434, 33554435, 33554437, MAX, MIN, (1L << 53) - 1, 1L << 53, (1L << 53) + 1, (1L << 53) + 2, (1L << 53) + 3,
            -(1L << 53) - 3, (1L << 54) + 2, (1L << 54) + 6, (1L << 62) + 1, Long.MAX_VALUE, Long.MAX_VALUE - 512,
            Long.MAX_VALUE - 511, Long.MIN_VALUE, Long.MIN_VALUE + 1, (1L << 40) + (1L << 16), (1L << 40) + (3L << 16)};
        for (long v : longs) {
            x.clear();
            x.type(CLASS, NONE);
            for (int kind = LONG; kind <= DOUBLE; kind++) {
                due(x.field(0, kind, kind, 0, FINAL), kind - LONG);
                due(x.value(kind - LONG), 0);
                due(x.constant(kind - LONG, v), 1);
            }
            due(x.value(0), v);
            due(x.value(1), Float.floatToIntBits((float) v));
            due(x.value(2), Double.doubleToLongBits((double) v));
        }
        due(thrownBy(x, of -> of.value(-1)), INDEX_THROWN);
        due(thrownBy(x, of -> of.value(3)), INDEX_THROWN);
        due(thrownBy(x, of -> of.value(MIN)), INDEX_THROWN);
        due(thrownBy(x, of -> of.value(MAX)), INDEX_THROWN);
        due(make(x, 0, 0, INT, 0, true), 3);
        due(thrownBy(x, of -> of.value(3)), CAST_THROWN);
        due(thrownBy(x, of -> of.value(4)), INDEX_THROWN);
        x.member(0, 1, INT, 0, 0, true);
        due(thrownBy(x, of -> of.value(4)), INDEX_THROWN);
        x.end();
        due(x.field(0, 20, VOID + 1, 0, 0), 5);
        due(x.value(5), 0);
        x.clear();
        due(thrownBy(x, of -> of.value(0)), INDEX_THROWN);
    }
}
