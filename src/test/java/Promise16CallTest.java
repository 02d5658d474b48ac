public final class Promise16CallTest extends PromiseTest {
    public static void main(String[] args) {
        run(Promise16CallTest.class);
    }

    /** "UNKNOWN: the TYPE": "(arguments stay)". */
    static void promise16_unknown() {
        for (int type : new int[] {-1, 6, 12, MIN, MAX}) {
            refused(PromiseTest::furnished, UNKNOWN, x -> x.call(type, 5));
            refused(PromiseTest::fullOfArguments, UNKNOWN, x -> x.call(type, 5));
        }
        refused(PromiseTest::fullOfTypes, UNKNOWN, x -> x.call(12, 0));
        answers(PromiseTest::fullOfTypes, NONE, x -> x.call(11, 0));
    }

    /** "OUTSIDE (arguments stay)": NAMES 0 .. 49. */
    static void promise16_outside() {
        for (int name : new int[] {-1, 50, MIN, MAX}) {
            refused(PromiseTest::furnished, OUTSIDE, x -> x.call(4, name));
            refused(PromiseTest::fullOfArguments, OUTSIDE, x -> x.call(4, name));
        }
        FieldMember x = with(CLASS, NONE);
        make(x, 0, 0, INT, 0, true);
        make(x, 0, 49, INT, 0, true);
        due(x.call(0, 0), 0);
        due(x.call(0, 49), 1);
        due(x.call(0, 48), NONE);
    }

    /** UNKNOWN comes before OUTSIDE. */
    static void promise16_unknownBeforeOutside() {
        refused(PromiseTest::furnished, UNKNOWN, x -> x.call(6, 50));
        refused(PromiseTest::furnished, UNKNOWN, x -> x.call(-1, -1));
    }

    /** "there are no arguments then": after a MEMBER, after NONE, after CLASH. */
    static void promise16_noArgumentsThen() {
        FieldMember x = with(CLASS, NONE, CLASS, 0);
        make(x, 0, 0, INT, 0, true, T, 0);
        make(x, 0, 1, INT, 0, true, T, 0, T + 1, 0);
        make(x, 0, 1, INT, 0, true, T + 1, 0, T, 0);
        due(ask(x, 0, 0, T, 0), 0);
        due(x.count(4), 0);
        due(ask(x, 0, 0, INT, 0), NONE);
        due(x.count(4), 0);
        due(ask(x, 0, 1, T + 1, 0, T + 1, 0), CLASH);
        due(x.count(4), 0);
        due(x.call(0, 0), NONE);
        // A refused one in between does not take them.
        due(x.argument(T, 0), 1);
        due(x.call(2, 0), UNKNOWN);
        due(x.call(0, 50), OUTSIDE);
        due(x.call(0, 0), 0);
    }

    /** A call changes nothing but the arguments and the way. */
    static void promise16_leavesTheRest() {
        FieldMember x = begun();
        due(x.call(4, 5), 4);
        due(x.count(2), 1);
        due(x.count(3), 2);
        due(x.count(5), 1);
        due(x.end(), 7);
        due(x.shape(7, 0), 2);
    }

    /** One that is begun is no MEMBER yet; one that broke a RULE never is; a FIELD of the NAME is none. */
    static void promise16_onlyMembers() {
        FieldMember x = with(CLASS, NONE);
        x.field(0, 0, INT, 0, 0);
        due(x.call(0, 0), NONE);
        x.member(0, 0, INT, 0, 0, true);
        due(x.call(0, 0), NONE);
        x.end();
        due(x.call(0, 0), 1);
    }

    /** "MEMBERS of that NAME of all TYPES that it is BELOW": all the way up, not from BELOW or aside. */
    static void promise16_allTypesAbove() {
        FieldMember x = with(FACE, NONE, FACE, NONE, CLASS, NONE);
        x.face(1, 0);
        x.face(2, 1);
        for (int t = 3; t < 11; t++) {
            x.type(CLASS, t - 1);
        }
        x.type(CLASS, 9);
        make(x, 0, 0, INT, 0, false);
        make(x, 10, 1, INT, 0, true);
        for (int t = 0; t < 12; t++) {
            due(x.call(t, 0), 0);
            due(x.call(t, 1), t == 10 ? 1 : NONE);
        }
    }

    /** "(of others but itself: not private": one's own private ones are. */
    static void promise16_notPrivateOfOthers() {
        FieldMember x = with(FACE, NONE, CLASS, NONE, CLASS, 1);
        x.face(1, 0);
        make(x, 0, 0, INT, PRIVATE, true);
        make(x, 1, 1, INT, PRIVATE, true);
        make(x, 1, 2, INT, 0, true);
        due(x.call(0, 0), 0);
        due(x.call(1, 0), NONE);
        due(x.call(1, 1), 1);
        due(x.call(2, 1), NONE);
        due(x.call(2, 2), 2);
    }

    /** "not static ones of a FACE)": one's own are, and those of a class above. */
    static void promise16_notStaticOfOtherFaces() {
        FieldMember x = with(FACE, NONE, FACE, NONE, CLASS, NONE, CLASS, 2);
        x.face(1, 0);
        x.face(2, 0);
        make(x, 0, 0, INT, STATIC, true);
        make(x, 2, 1, INT, STATIC, true);
        due(x.call(0, 0), 0);
        due(x.call(1, 0), NONE);
        due(x.call(2, 0), NONE);
        due(x.call(3, 0), NONE);
        due(x.call(2, 1), 1);
        due(x.call(3, 1), 1);
    }

    /** "but such as another CANDIDATE with the same PARAMETERS, of a TYPE BELOW theirs, stands for". */
    static void promise16_standsFor() {
        FieldMember x = with(CLASS, NONE, CLASS, 0, CLASS, 1);
        make(x, 1, 0, INT, 0, true, INT, 0);
        make(x, 0, 0, INT, 0, true, INT, 0);
        make(x, 2, 0, INT, 0, true, LONG, 0);
        due(ask(x, 0, 0, INT, 0), 1);
        due(ask(x, 1, 0, INT, 0), 0);
        due(ask(x, 2, 0, INT, 0), 0);
        due(ask(x, 2, 0, LONG, 0), 2);
        due(ask(x, 1, 0, LONG, 0), NONE);
    }

    /** One that is itself no CANDIDATE stands for none: a private one of a PARENT, a static one of a FACE. */
    static void promise16_onlyCandidatesStandFor() {
        FieldMember x = with(FACE, NONE, FACE, NONE, CLASS, NONE, CLASS, 2, CLASS, 3);
        x.face(1, 0);
        x.face(3, 1);
        make(x, 2, 0, INT, 0, true);
        make(x, 3, 0, INT, PRIVATE, true);
        due(x.call(3, 0), 1);
        due(x.call(4, 0), 0);
        make(x, 0, 1, INT, 0, false);
        make(x, 1, 1, INT, STATIC, true);
        due(x.call(1, 1), 3);
        due(x.call(3, 1), 2);
    }

    /** Of TYPES that are not BELOW one another neither stands for the other: two that are alike are several. */
    static void promise16_alikeFromAside() {
        FieldMember x = with(FACE, NONE, FACE, NONE, CLASS, NONE, CLASS, 2);
        x.face(3, 0);
        x.face(3, 1);
        make(x, 0, 0, INT, 0, false);
        due(x.call(3, 0), 0);
        make(x, 2, 0, INT, PUBLIC, true);
        due(x.call(3, 0), CLASH);
        make(x, 1, 1, INT, 0, false);
        make(x, 0, 1, INT, DEFAULT, true);
        due(x.call(3, 1), CLASH);
        make(x, 3, 0, INT, PUBLIC, true);
        due(x.call(3, 0), 4);
        due(x.call(2, 0), 1);
    }

    private static int fit(int kind, int dims, int toKind, int toDims) {
        FieldMember x = sorts();
        make(x, 5, 0, INT, 0, true, toKind, toDims);
        return ask(x, 5, 0, kind, dims);
    }

    /** "FITS an argument a PARAMETER: the same KIND, DIMS". */
    static void promise16_fitsTheSame() {
        for (int kind : new int[] {BOOLEAN, BYTE, SHORT, CHAR, INT, LONG, FLOAT, DOUBLE, T, T + 5}) {
            for (int dims = 0; dims <= 3; dims++) {
                for (int toDims = 0; toDims <= 3; toDims++) {
                    due(fit(kind, dims, kind, toDims), dims == toDims ? 0 : NONE);
                }
            }
        }
    }

    private static void widensTo(int kind, int... wider) {
        for (int to = BOOLEAN; to <= DOUBLE; to++) {
            boolean fits = to == kind;
            for (int each : wider) {
                fits = fits || each == to;
            }
            due(fit(kind, 0, to, 0), fits ? 0 : NONE);
            for (int dims = 1; dims <= 3; dims++) {
                due(fit(kind, dims, to, dims), to == kind ? 0 : NONE);
            }
        }
        due(fit(kind, 0, T, 0), NONE);
        due(fit(T, 0, kind, 0), NONE);
    }

    static void promise16_booleanFitsNoOther() {
        widensTo(BOOLEAN);
    }

    /** "byte to short, int, long, float, double". */
    static void promise16_byteFits() {
        widensTo(BYTE, SHORT, INT, LONG, FLOAT, DOUBLE);
    }

    /** "short to int .. double". */
    static void promise16_shortFits() {
        widensTo(SHORT, INT, LONG, FLOAT, DOUBLE);
    }

    /** "char likewise". */
    static void promise16_charFits() {
        widensTo(CHAR, INT, LONG, FLOAT, DOUBLE);
    }

    /** "int to long .. double". */
    static void promise16_intFits() {
        widensTo(INT, LONG, FLOAT, DOUBLE);
    }

    /** "long to float, double". */
    static void promise16_longFits() {
        widensTo(LONG, FLOAT, DOUBLE);
    }

    /** "float to double". */
    static void promise16_floatFits() {
        widensTo(FLOAT, DOUBLE);
    }

    static void promise16_doubleFitsNoOther() {
        widensTo(DOUBLE);
    }

    /** "a TYPE to one that it is BELOW; arrays of like DIMS of TYPES likewise". */
    static void promise16_typesFit() {
        String[] below = {"0", "01", "2", "0123", "01234", "5"};
        for (int t = 0; t < 6; t++) {
            for (int to = 0; to < 6; to++) {
                boolean fits = below[t].indexOf('0' + to) >= 0;
                for (int dims = 0; dims <= 3; dims++) {
                    due(fit(T + t, dims, T + to, dims), fits ? 0 : NONE);
                    due(fit(T + t, dims, T + to, dims == 3 ? 0 : dims + 1), NONE);
                }
            }
        }
    }

    /** "9 to TYPES, arrays": not to numbers and boolean. */
    static void promise16_theLinkFits() {
        for (int to = BOOLEAN; to <= DOUBLE; to++) {
            due(fit(LINK, 0, to, 0), NONE);
            for (int dims = 1; dims <= 3; dims++) {
                due(fit(LINK, 0, to, dims), 0);
            }
        }
        for (int dims = 0; dims <= 3; dims++) {
            due(fit(LINK, 0, T, dims), 0);
            due(fit(LINK, 0, T + 5, dims), 0);
        }
    }

    /** "as many PARAMETERS as there are arguments": from none to five, one more or less is NONE. */
    static void promise16_asMany() {
        for (int many = 0; many <= 5; many++) {
            FieldMember x = with(CLASS, NONE);
            x.member(0, 0, INT, 0, 0, true);
            for (int i = 0; i < many; i++) {
                x.parameter(INT, 0, false);
            }
            x.end();
            for (int given = 0; given <= 5; given++) {
                for (int i = 0; i < given; i++) {
                    x.argument(INT, 0);
                }
                due(x.call(0, 0), given == many ? 0 : NONE);
            }
        }
    }

    /** "all FIT": one place that does not, the first or the last, is enough. */
    static void promise16_allFit() {
        for (int odd = 0; odd < 5; odd++) {
            FieldMember x = with(CLASS, NONE);
            make(x, 0, 0, INT, 0, true, INT, 0, INT, 0, INT, 0, INT, 0, INT, 0);
            for (int i = 0; i < 5; i++) {
                x.argument(i == odd ? LONG : BYTE, 0);
            }
            due(x.call(0, 0), NONE);
        }
    }

    /** "(VARIED ones as arrays)": with as many arguments, the last an array, it is found as others are. */
    static void promise16_variedAsArray() {
        FieldMember x = with(CLASS, NONE, CLASS, 0);
        makeVaried(x, 0, 0, INT, 0, T, 1);
        due(ask(x, 0, 0, INT, 0, T, 1), 0);
        due(x.way(), 1);
        due(ask(x, 0, 0, INT, 0, T + 1, 1), 0);
        due(x.way(), 1);
        due(ask(x, 0, 0, INT, 0, LINK, 0), 0);
        due(x.way(), 1);
        due(ask(x, 0, 0, INT, 0, T, 2), NONE);
    }

    /** "if there are none, VARIED ones": only then, though they would be nearer. */
    static void promise16_variedOnlyThen() {
        FieldMember x = with(CLASS, NONE);
        makeVaried(x, 0, 0, INT, 1);
        make(x, 0, 0, INT, 0, true, DOUBLE, 0);
        due(ask(x, 0, 0, INT, 0), 1);
        due(x.way(), 1);
        due(ask(x, 0, 0, INT, 0, INT, 0), 0);
        due(x.way(), 2);
        // A CLASH of those that have as many is a CLASH; VARIED ones do not mend it.
        FieldMember y = with(CLASS, NONE);
        make(y, 0, 0, INT, 0, true, INT, 0, LONG, 0);
        make(y, 0, 0, INT, 0, true, LONG, 0, INT, 0);
        makeVaried(y, 0, 0, INT, 1);
        due(ask(y, 0, 0, INT, 0, INT, 0), CLASH);
        due(ask(y, 0, 0, INT, 0, INT, 0, INT, 0), 2);
    }

    /** "for all arguments from its place on (perhaps none)": none, one, five; not one less than the others. */
    static void promise16_itemsFromItsPlaceOn() {
        for (int before = 0; before <= 4; before++) {
            FieldMember x = with(CLASS, NONE);
            x.member(0, 0, INT, 0, 0, true);
            for (int i = 0; i < before; i++) {
                x.parameter(BOOLEAN, 0, false);
            }
            x.parameter(INT, 1, true);
            x.end();
            for (int given = 0; given <= 5; given++) {
                for (int i = 0; i < given; i++) {
                    x.argument(i < before ? BOOLEAN : BYTE, 0);
                }
                due(x.call(0, 0), given >= before ? 0 : NONE);
                due(x.way(), given >= before ? 2 : 0);
            }
        }
    }

    /** "stands as its items": each argument FITS an item, with one DIMS less, the last one too. */
    static void promise16_itemsFit() {
        FieldMember x = with(CLASS, NONE, CLASS, 0);
        makeVaried(x, 0, 0, INT, 1);
        makeVaried(x, 0, 1, T, 3);
        due(ask(x, 0, 0, INT, 0, INT, 0, INT, 0, INT, 0, LONG, 0), NONE);
        due(ask(x, 0, 0, LONG, 0, INT, 0), NONE);
        due(ask(x, 0, 0, INT, 1, INT, 1), NONE);
        due(ask(x, 0, 0, INT, 0, INT, 1), NONE);
        due(ask(x, 0, 0, LINK, 0, LINK, 0), NONE);
        due(ask(x, 0, 1, T, 2), 1);
        due(x.way(), 2);
        due(ask(x, 0, 1, T + 1, 2, LINK, 0, T, 2), 1);
        due(ask(x, 0, 1, T, 1), NONE);
        due(ask(x, 0, 1, T, 3, T, 3), NONE);
    }

    /** Only one that is told VARIED takes items. */
    static void promise16_arraysTakeNoItems() {
        FieldMember x = with(CLASS, NONE);
        make(x, 0, 0, INT, 0, true, INT, 1);
        due(x.call(0, 0), NONE);
        due(ask(x, 0, 0, INT, 0), NONE);
        due(ask(x, 0, 0, INT, 1), 0);
    }

    /** "the one is NEAREST whose PARAMETERS FIT those of each other one": in whatever order they came. */
    static void promise16_nearest() {
        int[][] orders = {{INT, LONG, DOUBLE}, {DOUBLE, LONG, INT}, {LONG, INT, DOUBLE}, {LONG, DOUBLE, INT}};
        for (int[] kinds : orders) {
            FieldMember x = with(CLASS, NONE);
            for (int kind : kinds) {
                make(x, 0, 0, VOID, 0, true, kind, 0);
            }
            for (int given = BYTE; given <= DOUBLE; given++) {
                int want = given <= INT ? INT : given == LONG ? LONG : DOUBLE;
                int found = ask(x, 0, 0, given, 0);
                due(found >= 0 ? x.parameterOf(found, 0, false) : NONE, want);
            }
        }
    }

    /** "place by place": nearer at one place and farther at another is no NEAREST. */
    static void promise16_placeByPlace() {
        FieldMember x = with(CLASS, NONE);
        make(x, 0, 0, VOID, 0, true, INT, 0, LONG, 0);
        make(x, 0, 0, VOID, 0, true, LONG, 0, INT, 0);
        due(ask(x, 0, 0, INT, 0, INT, 0), CLASH);
        due(ask(x, 0, 0, INT, 0, LONG, 0), 0);
        due(ask(x, 0, 0, LONG, 0, INT, 0), 1);
        due(ask(x, 0, 0, LONG, 0, LONG, 0), NONE);
        make(x, 0, 0, VOID, 0, true, INT, 0, INT, 0);
        due(ask(x, 0, 0, INT, 0, INT, 0), 2);
        // The last place counts as the first does.
        make(x, 0, 1, VOID, 0, true, INT, 0, INT, 0, INT, 0, INT, 0, LONG, 0);
        make(x, 0, 1, VOID, 0, true, INT, 0, INT, 0, INT, 0, INT, 0, INT, 0);
        due(ask(x, 0, 1, INT, 0, INT, 0, INT, 0, INT, 0, INT, 0), 4);
    }

    /** THE LINK: of two TYPES the lower one; of TYPES aside, or a TYPE and an array, none is NEAREST. */
    static void promise16_nearestOfTheLink() {
        FieldMember x = with(CLASS, NONE, CLASS, 0, CLASS, NONE);
        make(x, 0, 0, VOID, 0, true, T, 0);
        make(x, 0, 0, VOID, 0, true, T + 1, 0);
        due(ask(x, 0, 0, LINK, 0), 1);
        make(x, 0, 0, VOID, 0, true, T + 2, 0);
        due(ask(x, 0, 0, LINK, 0), CLASH);
        make(x, 0, 1, VOID, 0, true, T, 1);
        make(x, 0, 1, VOID, 0, true, T, 0);
        due(ask(x, 0, 1, LINK, 0), CLASH);
        make(x, 0, 2, VOID, 0, true, T, 2);
        make(x, 0, 2, VOID, 0, true, T + 1, 2);
        make(x, 0, 2, VOID, 0, true, INT, 0);
        due(ask(x, 0, 2, LINK, 0), 6);
    }

    /** A FACE and a class that is not BELOW it are aside: an argument that is BELOW both finds no NEAREST. */
    static void promise16_nearestOfFaces() {
        FieldMember x = with(FACE, NONE, CLASS, NONE, CLASS, 1);
        x.face(2, 0);
        make(x, 1, 0, VOID, 0, true, T, 0);
        make(x, 1, 0, VOID, 0, true, T + 1, 0);
        due(ask(x, 1, 0, T + 2, 0), CLASH);
        due(ask(x, 1, 0, T + 1, 0), 1);
        make(x, 1, 0, VOID, 0, true, T + 2, 0);
        due(ask(x, 1, 0, T + 2, 0), 2);
    }

    /** "of each other one": NEAREST of some is not enough. */
    static void promise16_nearestOfAll() {
        FieldMember x = with(CLASS, NONE, CLASS, NONE, CLASS, NONE);
        make(x, 0, 0, VOID, 0, true, INT, 0, LONG, 0, INT, 0);
        make(x, 0, 0, VOID, 0, true, LONG, 0, LONG, 0, INT, 0);
        make(x, 0, 0, VOID, 0, true, LONG, 0, INT, 0, LONG, 0);
        due(ask(x, 0, 0, INT, 0, INT, 0, INT, 0), CLASH);
        due(ask(x, 0, 0, INT, 0, LONG, 0, INT, 0), 0);
    }

    /** "found by VARIED: with as many places as there are arguments". */
    static void promise16_variedByArguments() {
        FieldMember x = with(CLASS, NONE);
        makeVaried(x, 0, 0, INT, 0, LONG, 1);
        makeVaried(x, 0, 0, LONG, 1);
        due(ask(x, 0, 0, INT, 0, INT, 0, INT, 0), 0);
        makeVaried(x, 0, 1, INT, 0, INT, 0, LONG, 1);
        makeVaried(x, 0, 1, LONG, 0, INT, 1);
        // The third and later places are what makes the CLASH.
        due(ask(x, 0, 1, INT, 0, INT, 0, INT, 0, INT, 0), CLASH);
        due(ask(x, 0, 1, INT, 0, INT, 0, LONG, 0), 2);
    }

    /** "or PARAMETERS of either, if these are more": places without arguments count. */
    static void promise16_variedByParameters() {
        FieldMember x = with(CLASS, NONE);
        makeVaried(x, 0, 0, INT, 0, LONG, 1);
        makeVaried(x, 0, 0, LONG, 0, INT, 1);
        due(ask(x, 0, 0, INT, 0), CLASH);
        makeVaried(x, 0, 1, INT, 0, INT, 1);
        makeVaried(x, 0, 1, LONG, 1);
        due(ask(x, 0, 1, INT, 0), 2);
        makeVaried(x, 0, 2, INT, 0, BOOLEAN, 1);
        makeVaried(x, 0, 2, LONG, 1);
        due(ask(x, 0, 2, INT, 0), CLASH);
        due(x.call(0, 2), 5);
        due(x.way(), 2);
    }

    /** "the last PARAMETER, as its items, from its place on": also of the one that has fewer. */
    static void promise16_variedItemsAgainstItems() {
        FieldMember x = with(CLASS, NONE);
        makeVaried(x, 0, 0, INT, 1);
        makeVaried(x, 0, 0, INT, 0, INT, 1);
        // Alike at every place: each is NEAREST, so there are several.
        due(ask(x, 0, 0, INT, 0), CLASH);
        due(ask(x, 0, 0, INT, 0, INT, 0), CLASH);
        due(x.call(0, 0), 0);
        makeVaried(x, 0, 1, INT, 2);
        makeVaried(x, 0, 1, INT, 1, LONG, 2);
        due(ask(x, 0, 1, INT, 1), CLASH);
        due(ask(x, 0, 1, INT, 1, INT, 1), 2);
        due(ask(x, 0, 1, INT, 1, LONG, 1), 3);
    }

    /** Without arguments: VARIED ones are compared at the places of their PARAMETERS. */
    static void promise16_variedWithoutArguments() {
        FieldMember x = with(CLASS, NONE);
        makeVaried(x, 0, 0, LONG, 1);
        due(x.call(0, 0), 0);
        makeVaried(x, 0, 0, INT, 1);
        due(x.call(0, 0), 1);
        makeVaried(x, 0, 0, BOOLEAN, 1);
        due(x.call(0, 0), CLASH);
        make(x, 0, 0, VOID, 0, true);
        due(x.call(0, 0), 3);
        due(x.way(), 1);
    }

    /** "NONE without any": no MEMBER, no CANDIDATE, none that FITS. */
    static void promise16_noneWithoutAny() {
        answers(() -> with(CLASS, NONE), NONE, x -> x.call(0, 0));
        FieldMember x = with(CLASS, NONE);
        make(x, 0, 0, VOID, 0, true, INT, 0);
        due(x.call(0, 0), NONE);
        due(ask(x, 0, 0, BOOLEAN, 0), NONE);
        due(ask(x, 0, 1, INT, 0), NONE);
    }

    /** "CLASH, if there is no such one, or several". */
    static void promise16_clash() {
        FieldMember none = with(CLASS, NONE);
        make(none, 0, 0, VOID, 0, true, INT, 0, LONG, 0);
        make(none, 0, 0, VOID, 0, true, LONG, 0, INT, 0);
        due(ask(none, 0, 0, INT, 0, INT, 0), CLASH);
        FieldMember several = with(FACE, NONE, FACE, NONE, CLASS, NONE);
        several.face(2, 0);
        several.face(2, 1);
        make(several, 0, 0, VOID, 0, false, INT, 0);
        make(several, 1, 0, VOID, 0, false, INT, 0);
        due(ask(several, 2, 0, INT, 0), CLASH);
        // Those that do not FIT make no CLASH.
        make(several, 0, 1, VOID, 0, false, LONG, 0);
        make(several, 1, 1, VOID, 0, false, INT, 0);
        due(ask(several, 2, 1, LONG, 0), 2);
    }

    /** The last ENTRY of a full object is found, the first one too. */
    static void promise16_sixtyMembers() {
        FieldMember x = with(CLASS, NONE);
        int made = 0;
        for (int name = 0; name < 50; name++) {
            due(make(x, 0, name, VOID, 0, true), made++);
        }
        for (int name = 40; name < 50; name++) {
            due(make(x, 0, name, VOID, 0, true, INT, 0), made++);
        }
        due(x.call(0, 0), 0);
        due(x.call(0, 49), 49);
        due(ask(x, 0, 49, INT, 0), 59);
        due(ask(x, 0, 40, INT, 0), 50);
    }

    static void promise16_inOneRun() {
        FieldMember x = with(CLASS, NONE, CLASS, 0);
        due(x.call(2, 50), UNKNOWN);
        due(x.call(-1, 0), UNKNOWN);
        due(x.call(0, 50), OUTSIDE);
        due(x.call(0, -1), OUTSIDE);
        due(x.call(0, 0), NONE);
        due(make(x, 0, 0, VOID, 0, true), 0);
        due(x.call(0, 0), 0);
        due(x.call(1, 0), 0);
        due(x.call(0, 1), NONE);
        due(x.field(0, 1, INT, 0, 0), 1);
        due(x.call(0, 1), NONE);
        x.argument(INT, 0);
        due(x.call(2, 0), UNKNOWN);
        due(x.call(0, 50), OUTSIDE);
        due(x.count(4), 1);
        due(x.call(0, 0), NONE);
        due(x.count(4), 0);
        due(x.call(0, 0), 0);
        // One that is begun is none yet.
        x.member(0, 5, VOID, 0, 0, true);
        due(x.call(0, 5), NONE);
        due(x.end(), 2);
        due(x.call(0, 5), 2);
        due(make(x, 0, 6, VOID, 0, true, T, 0, T + 1, 0), 3);
        due(make(x, 0, 6, VOID, 0, true, T + 1, 0, T, 0), 4);
        due(ask(x, 0, 6, T + 1, 0, T + 1, 0), CLASH);
        due(x.count(4), 0);
        due(ask(x, 0, 6, T + 1, 0, T, 0), 4);
        due(ask(x, 0, 6, T, 0, T, 0), NONE);
        due(make(x, 0, 6, VOID, 0, true, T + 1, 0, T + 1, 0), 5);
        due(ask(x, 0, 6, T + 1, 0, T + 1, 0), 5);
    }

    static void promise16_candidatesInOneRun() {
        FieldMember x = with(FACE, NONE, FACE, NONE, CLASS, NONE, CLASS, 2, CLASS, NONE);
        x.face(1, 0);
        x.face(2, 0);
        x.face(3, 1);
        due(make(x, 2, 0, VOID, PRIVATE, true), 0);
        due(x.call(2, 0), 0);
        due(x.call(3, 0), NONE);
        due(x.call(4, 0), NONE);
        due(make(x, 0, 1, VOID, STATIC, true), 1);
        due(x.call(0, 1), 1);
        due(x.call(1, 1), NONE);
        due(x.call(2, 1), NONE);
        due(make(x, 2, 2, VOID, STATIC, true), 2);
        due(x.call(3, 2), 2);
        due(make(x, 0, 3, VOID, 0, false), 3);
        due(x.call(3, 3), 3);
        // The nearest TYPE's one stands for those above it, on every way.
        due(make(x, 1, 3, VOID, 0, false), 4);
        due(x.call(1, 3), 4);
        due(x.call(2, 3), 3);
        due(x.call(3, 3), 4);
        // PARENT and FACE that are not BELOW one another: neither stands for the other.
        due(make(x, 2, 3, VOID, PUBLIC, true), 5);
        due(x.call(2, 3), 5);
        due(x.call(3, 3), CLASH);
        due(make(x, 3, 3, VOID, PUBLIC, true), 6);
        due(x.call(3, 3), 6);
        // A private one of the TYPE itself, a static one of the FACE itself stand for those above too.
        due(make(x, 2, 4, VOID, 0, true), 7);
        due(make(x, 3, 4, VOID, PRIVATE, true), 8);
        due(x.call(3, 4), 8);
        due(make(x, 0, 5, VOID, 0, false), 9);
        due(make(x, 1, 5, VOID, STATIC, true), 10);
        due(x.call(1, 5), 10);
        due(x.call(3, 5), 9);
        // Of other PARAMETERS, that of the TYPE above still comes first if it is nearer.
        due(make(x, 2, 6, VOID, 0, true, INT, 0), 11);
        due(make(x, 3, 6, VOID, 0, true, LONG, 0), 12);
        due(ask(x, 3, 6, INT, 0), 11);
        due(ask(x, 3, 6, LONG, 0), 12);
        // The order in which they came means nothing.
        FieldMember y = with(CLASS, NONE, CLASS, 0);
        due(make(y, 1, 0, VOID, 0, true, T, 0, T, 0), 0);
        due(make(y, 0, 0, VOID, 0, true, T, 0, T, 0), 1);
        due(ask(y, 1, 0, T, 0, T, 0), 0);
        due(ask(y, 0, 0, T, 0, T, 0), 1);
        FieldMember z = with(CLASS, NONE, CLASS, 0);
        due(make(z, 0, 0, VOID, 0, true, T, 0, T + 1, 0), 0);
        due(make(z, 0, 0, VOID, 0, true, T + 1, 0, T, 0), 1);
        due(ask(z, 0, 0, T + 1, 0, T + 1, 0), CLASH);
    }

    private static boolean isFit(int kind, int to) {
        String[] fits = {"", "1", "235678", "35678", "45678", "5678", "678", "78", "8"};
        return fits[kind].indexOf('0' + to) >= 0;
    }

    static void promise16_fitsInOneRun() {
        for (int to = BOOLEAN; to <= DOUBLE; to++) {
            FieldMember x = with(CLASS, NONE);
            make(x, 0, 0, VOID, 0, true, to, 0);
            make(x, 0, 1, VOID, 0, true, to, 1);
            for (int kind = BOOLEAN; kind <= DOUBLE; kind++) {
                due(ask(x, 0, 0, kind, 0), isFit(kind, to) ? 0 : NONE);
                due(ask(x, 0, 1, kind, 1), kind == to ? 1 : NONE);
                due(ask(x, 0, 0, kind, 1), NONE);
                due(ask(x, 0, 1, kind, 0), NONE);
            }
            due(ask(x, 0, 0, LINK, 0), NONE);
            due(ask(x, 0, 1, LINK, 0), 1);
            due(ask(x, 0, 0, T, 0), NONE);
        }
        FieldMember x = with(FACE, NONE, CLASS, NONE, CLASS, 1, CLASS, NONE);
        x.face(2, 0);
        for (int dims = 0; dims <= 3; dims++) {
            for (int to = 0; to < 4; to++) {
                make(x, 1, dims * 4 + to, VOID, 0, true, T + to, dims);
            }
        }
        for (int dims = 0; dims <= 3; dims++) {
            for (int to = 0; to < 4; to++) {
                int name = dims * 4 + to;
                boolean one = to == 0 || to == 1 || to == 2;
                due(ask(x, 1, name, T + 2, dims), one ? name : NONE);
                due(ask(x, 1, name, T + 1, dims), to == 1 ? name : NONE);
                due(ask(x, 1, name, T, dims), to == 0 ? name : NONE);
                due(ask(x, 1, name, T + 2, (dims + 1) % 4), NONE);
                due(ask(x, 1, name, LINK, 0), name);
                due(ask(x, 1, name, INT, dims), NONE);
            }
        }
    }

    static void promise16_variedInOneRun() {
        FieldMember x = with(CLASS, NONE, CLASS, 0);
        due(makeVaried(x, 0, 0, INT, 1), 0);
        due(x.call(0, 0), 0);
        due(x.way(), 2);
        due(ask(x, 0, 0, BYTE, 0, CHAR, 0, INT, 0, SHORT, 0, INT, 0), 0);
        due(ask(x, 0, 0, INT, 0, LONG, 0), NONE);
        due(ask(x, 0, 0, INT, 1), 0);
        due(x.way(), 1);
        due(ask(x, 0, 0, INT, 1, INT, 1), NONE);
        due(ask(x, 0, 0, INT, 0), 0);
        due(x.way(), 2);
        due(ask(x, 0, 0, BYTE, 1), NONE);
        // THE LINK is an array here, and no item.
        due(ask(x, 0, 0, LINK, 0), 0);
        due(x.way(), 1);
        due(ask(x, 0, 0, LINK, 0, LINK, 0), NONE);
        // One that has as many comes before a VARIED one that would be nearer.
        due(make(x, 0, 0, VOID, 0, true, DOUBLE, 0), 1);
        due(ask(x, 0, 0, INT, 0), 1);
        due(x.way(), 1);
        due(makeVaried(x, 0, 1, LONG, 0, INT, 1), 2);
        due(x.call(0, 1), NONE);
        due(ask(x, 0, 1, INT, 0), 2);
        due(ask(x, 0, 1, FLOAT, 0), NONE);
        due(ask(x, 0, 1, LONG, 0, INT, 0, INT, 0), 2);
        due(ask(x, 0, 1, LONG, 0, LONG, 0), NONE);
        // Both take one int; place by place (2 places) int, int FIT long, int.
        due(makeVaried(x, 0, 1, INT, 1), 3);
        due(ask(x, 0, 1, INT, 0), 3);
        due(ask(x, 0, 1, INT, 0, INT, 0, INT, 0), 3);
        due(ask(x, 0, 1, LONG, 0, INT, 0), 2);
        // Places beyond the arguments count: (T0 ..) against (T1, T1, int ..) with two arguments.
        due(makeVaried(x, 0, 2, T, 1), 4);
        due(makeVaried(x, 0, 2, T + 1, 0, T + 1, 0, INT, 1), 5);
        due(ask(x, 0, 2, T + 1, 0, T + 1, 0), CLASH);
        due(x.way(), 0);
        due(makeVaried(x, 0, 3, T, 1), 6);
        due(makeVaried(x, 0, 3, T + 1, 0, T + 1, 0, T + 1, 1), 7);
        due(ask(x, 0, 3, T + 1, 0, T + 1, 0), 7);
        due(ask(x, 0, 3, T + 1, 0), 6);
        // The items of an array of arrays are arrays.
        due(makeVaried(x, 0, 4, T, 2), 8);
        due(ask(x, 0, 4, T + 1, 1, LINK, 0), 8);
        due(ask(x, 0, 4, T + 1, 0), NONE);
        due(ask(x, 0, 4, T + 1, 2), 8);
        due(x.way(), 1);
        // Two that FIT one another: several.
        due(makeVaried(x, 0, 5, INT, 1), 9);
        due(makeVaried(x, 0, 5, INT, 0, INT, 1), 10);
        due(ask(x, 0, 5, INT, 0), CLASH);
        due(x.call(0, 5), 9);
        // An array PARAMETER that is not VARIED takes no items.
        due(make(x, 0, 7, VOID, 0, true, INT, 1), 11);
        due(ask(x, 0, 7, INT, 0), NONE);
        due(x.call(0, 7), NONE);
        // One that is VARIED stands for one above that is not, and the other way round.
        due(makeVaried(x, 1, 7, INT, 1), 12);
        due(ask(x, 1, 7, INT, 0), 12);
        due(ask(x, 1, 7, INT, 1), 12);
        due(make(x, 1, 5, VOID, PUBLIC, true, INT, 1), 13);
        due(ask(x, 1, 5, INT, 0, INT, 0), 10);
        due(x.call(1, 5), NONE);
    }
}
