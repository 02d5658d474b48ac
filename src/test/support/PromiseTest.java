import java.lang.reflect.InvocationTargetException;
import java.lang.reflect.Method;
import java.lang.reflect.Modifier;
import java.util.ArrayList;
import java.util.Arrays;
import java.util.Comparator;
import java.util.List;

/** What the tests of the promises have in common: the names, the objects that they begin with, what is due. */
abstract class PromiseTest {
    static final int NONE = -1, CLASH = -2, UNKNOWN = -11, CAST = -12, OUTSIDE = -13, STATE = -14, FULL = -15;
    static final int PUBLIC = 1, PROTECTED = 2, PRIVATE = 4, STATIC = 8, FINAL = 16, VOLATILE = 32, TRANSIENT = 64;
    static final int ABSTRACT = 128, NATIVE = 256, SYNCHRONIZED = 512, DEFAULT = 1024;
    static final int CLASS = 0, ABSTRACT_CLASS = 1, FINAL_CLASS = 2, FACE = 3;
    static final int VOID = 0, BOOLEAN = 1, BYTE = 2, SHORT = 3, CHAR = 4, INT = 5, LONG = 6, FLOAT = 7, DOUBLE = 8;
    static final int LINK = 9, T = 10;
    static final int MIN = Integer.MIN_VALUE, MAX = Integer.MAX_VALUE;
    static final int NOTHING_THROWN = 0, CAST_THROWN = 1, INDEX_THROWN = 2, OTHER_THROWN = 3;

    private static String sentence = "";
    private static int asked = 0;
    private static int wrong = 0;

    /** An object to begin with; each call makes the same one anew. */
    interface Scene {
        FieldMember made();
    }

    interface Asked {
        long of(FieldMember x);
    }

    /** Runs each method that is named after the promise that the class is named after. */
    static void run(Class<?> tests) {
        int promise = Integer.parseInt(tests.getSimpleName().replaceAll("\\D+", ""));
        Method[] methods = tests.getDeclaredMethods();
        Arrays.sort(methods, Comparator.comparing(Method::getName));
        int sentences = 0;
        for (Method each : methods) {
            if (each.getName().startsWith("promise" + promise + "_") && Modifier.isStatic(each.getModifiers())) {
                sentences++;
                runOne(each);
            } else if (each.getName().startsWith("promise")) {
                sentence = each.getName();
                say("is not named after its promise, or not static, and was not run");
            }
        }
        System.out.println("promise " + promise + ": " + sentences + " sentences, " + asked + " answers, " + wrong + " wrong");
        if (wrong != 0 || sentences == 0) {
            System.exit(1);
        }
    }

    private static void runOne(Method test) {
        sentence = test.getName();
        int before = asked;
        try {
            test.setAccessible(true);
            test.invoke(null);
        } catch (InvocationTargetException e) {
            say("threw " + e.getCause() + " at " + e.getCause().getStackTrace()[0]);
        } catch (IllegalAccessException e) {
            say("could not be run");
        }
        if (asked == before) {
            say("asked nothing");
        }
    }

    private static void say(String fault) {
        wrong++;
        System.out.println(sentence + lineOfTest() + ": " + fault);
    }

    private static String lineOfTest() {
        for (StackTraceElement at : new Throwable().getStackTrace()) {
            if (at.getMethodName().equals(sentence)) {
                return " (line " + at.getLineNumber() + ")";
            }
        }
        return "";
    }

    static void due(long got, long want) {
        asked++;
        if (got != want) {
            say("answered " + got + ", due is " + want);
        }
    }

    static int rule(int number) {
        return -40 - number;
    }

    /** Refused, and nothing changes: what can be told of the object is what is told of one without that call. */
    static void refused(Scene scene, int refusal, Asked call) {
        FieldMember x = scene.made();
        due(call.of(x), refusal);
        sameStory(story(x, 0), story(scene.made(), 0));
    }

    /** A RULE is broken: that is counted, and nothing comes or changes. */
    static void breaks(Scene scene, int number, Asked call) {
        FieldMember x = scene.made();
        due(call.of(x), rule(number));
        sameStory(story(x, 0), story(scene.made(), number));
    }

    static void answers(Scene scene, long want, Asked call) {
        due(call.of(scene.made()), want);
    }

    static void sameStory(List<String> got, List<String> want) {
        asked++;
        for (int i = 0; i < Math.max(got.size(), want.size()); i++) {
            String one = i < got.size() ? got.get(i) : "nothing";
            String other = i < want.size() ? want.get(i) : "nothing";
            if (!one.equals(other)) {
                say("left " + one + ", due is " + other);
                return;
            }
        }
    }

    /**
     * What can be told of an object, in less than 300 calls; the object is used up by it. With a number, that RULE counts
     * as broken once more than it was.
     */
    static List<String> story(FieldMember x, int brokenMore) {
        List<String> told = new ArrayList<>();
        for (int what = 0; what <= 5; what++) {
            told.add("count " + what + ": " + (x.count(what) + (what == 5 && brokenMore > 0 ? 1 : 0)));
        }
        for (int number = 1; number <= 25; number++) {
            told.add("broken " + number + ": " + (x.broken(number) + (number == brokenMore ? 1 : 0)));
        }
        told.add("way: " + x.way());
        tellTypes(x, told);
        int entries = x.count(1);
        for (int e = 0; e < entries; e++) {
            if (e < 4 || e >= entries - 4) {
                tellEntry(x, e, told);
            }
        }
        tellWhatWaits(x, told);
        return told;
    }

    private static void tellTypes(FieldMember x, List<String> told) {
        int types = x.count(0);
        for (int t = 0; t < types; t++) {
            for (int other = 0; other < types; other++) {
                if (types <= 6 || other == 0 || other == t - 1) {
                    told.add("below " + t + " " + other + ": " + x.below(t, other));
                }
            }
        }
        for (int t = Math.max(0, types - 4); t < types; t++) {
            told.add("sought " + t + ": " + x.sought(t, 0) + " " + x.sought(t, 1));
            told.add("lacks " + t + ": " + x.lacks(t, 0) + " " + x.lacks(t, 1));
        }
    }

    private static void tellEntry(FieldMember x, int e, List<String> told) {
        StringBuilder text = new StringBuilder("entry " + e + ":");
        for (int what = 0; what <= 5; what++) {
            text.append(' ').append(x.entry(e, what));
        }
        if (x.entry(e, 0) == 0) {
            told.add(text + ", value " + x.value(e));
            return;
        }
        text.append(", shape");
        for (int what = 0; what <= 3; what++) {
            text.append(' ').append(x.shape(e, what));
        }
        int parameters = x.shape(e, 0);
        for (int i = 0; i < parameters; i++) {
            text.append(", ").append(x.parameterOf(e, i, false)).append(' ').append(x.parameterOf(e, i, true));
        }
        told.add(text.toString());
    }

    /** What only changes tell: the MEMBER that is begun, the arguments, which CONSTANTS and FACES may still come. */
    private static void tellWhatWaits(FieldMember x, List<String> told) {
        int types = x.count(0);
        told.add("call: " + x.call(Math.min(4, types - 1), 5) + " " + x.way() + " " + x.count(4));
        int ended = x.end();
        told.add("end: " + ended);
        if (ended >= 0) {
            tellEntry(x, ended, told);
        }
        int entries = x.count(1);
        for (int e = 0; e < 4 && e < entries; e++) {
            told.add("constant " + e + ": " + x.constant(e, 1L << 40) + " " + x.constant(e, 1));
        }
        for (int t = Math.max(0, types - 3); t < types; t++) {
            told.add("face " + t + ": " + x.face(t, 0) + " " + x.face(t, 1));
        }
        told.add("type: " + x.type(CLASS, NONE));
    }

    static FieldMember with(int... sortsAndParents) {
        FieldMember x = new FieldMember();
        for (int i = 0; i < sortsAndParents.length; i += 2) {
            mustBe(x.type(sortsAndParents[i], sortsAndParents[i + 1]), i / 2);
        }
        return x;
    }

    /** What a test builds upon is right, or it proves nothing. */
    private static void mustBe(long got, long want) {
        if (got != want) {
            throw new IllegalStateException("what the test begins with answered " + got + ", not " + want);
        }
    }

    /** Begins, fills and ends a MEMBER without VARIED; PARAMETERS: kind, dims, kind, dims .. */
    static int make(FieldMember x, int type, int name, int kind, int marks, boolean body, int... parameters) {
        int begun = x.member(type, name, kind, 0, marks, body);
        if (begun != 1) {
            return begun;
        }
        for (int i = 0; i < parameters.length; i += 2) {
            mustBe(x.parameter(parameters[i], parameters[i + 1], false), i / 2 + 1);
        }
        return x.end();
    }

    /** The same, of VOID, public, with a BODY, the last PARAMETER VARIED. */
    static int makeVaried(FieldMember x, int type, int name, int... parameters) {
        mustBe(x.member(type, name, VOID, 0, PUBLIC, true), 1);
        for (int i = 0; i < parameters.length; i += 2) {
            mustBe(x.parameter(parameters[i], parameters[i + 1], i + 2 == parameters.length), i / 2 + 1);
        }
        return x.end();
    }

    static int ask(FieldMember x, int type, int name, int... arguments) {
        for (int i = 0; i < arguments.length; i += 2) {
            mustBe(x.argument(arguments[i], arguments[i + 1]), i / 2 + 1);
        }
        return x.call(type, name);
    }

    static int thrownBy(FieldMember x, Asked call) {
        try {
            call.of(x);
            return NOTHING_THROWN;
        } catch (RuntimeException e) {
            return numberOf(e);
        }
    }

    private static int numberOf(RuntimeException e) {
        // What the machine throws by itself tells of a bound or a class; the class throws before it comes to that.
        String text = String.valueOf(e.getMessage());
        if (text.contains("out of bounds") || text.contains("cannot be cast")) {
            return OTHER_THROWN;
        }
        if (e.getClass() == ClassCastException.class) {
            return CAST_THROWN;
        }
        return e.getClass() == ArrayIndexOutOfBoundsException.class ? INDEX_THROWN : OTHER_THROWN;
    }

    static FieldMember bare() {
        return new FieldMember();
    }

    /** FACES 0 and 1, 1 BELOW 0; an ABSTRACT class 2, 3 BELOW it and FACE 1, a FINAL one 4 BELOW 3; 5 by itself. */
    static FieldMember sorts() {
        FieldMember x = with(FACE, NONE, FACE, NONE, ABSTRACT_CLASS, NONE, CLASS, 2, FINAL_CLASS, 3, CLASS, NONE);
        mustBe(x.face(1, 0), 1);
        mustBe(x.face(3, 1), 1);
        return x;
    }

    /** Those TYPES with FIELDS 0 to 2, MEMBERS 3 to 6, a latest call, a RULE broken once and two arguments that wait. */
    static FieldMember furnished() {
        FieldMember x = sorts();
        mustBe(x.field(0, 0, INT, 0, 0), 0);
        mustBe(x.constant(0, 77), 1);
        mustBe(x.field(3, 1, LONG, 0, FINAL | PRIVATE), 1);
        mustBe(x.field(2, 0, T + 4, 2, PUBLIC), 2);
        mustBe(make(x, 1, 5, INT, 0, false), 3);
        mustBe(make(x, 2, 5, VOID, PROTECTED, true, T + 2, 0, LONG, 0), 4);
        mustBe(makeVaried(x, 3, 5, T + 2, 0, LONG, 1), 5);
        mustBe(make(x, 3, 6, T, PRIVATE | STATIC, true), 6);
        mustBe(x.field(5, 0, VOID, 0, 0), rule(5));
        mustBe(ask(x, 4, 5, T + 3, 0), 5);
        mustBe(x.way(), 2);
        mustBe(x.argument(T + 4, 0), 1);
        mustBe(x.argument(INT, 0), 2);
        return x;
    }

    /** The same with a MEMBER of TYPE 4 and NAME 7 that is begun and has two PARAMETERS. */
    static FieldMember begun() {
        FieldMember x = furnished();
        mustBe(x.member(4, 7, T + 1, 1, PROTECTED | FINAL, true), 1);
        mustBe(x.parameter(T + 5, 3, false), 1);
        mustBe(x.parameter(CHAR, 1, false), 2);
        return x;
    }

    /** The same with five PARAMETERS, the last one VARIED. */
    static FieldMember fullOfParameters() {
        FieldMember x = begun();
        mustBe(x.parameter(INT, 0, false), 3);
        mustBe(x.parameter(INT, 2, false), 4);
        mustBe(x.parameter(BYTE, 1, true), 5);
        return x;
    }

    static FieldMember fullOfArguments() {
        FieldMember x = furnished();
        for (int i = 3; i <= 5; i++) {
            mustBe(x.argument(INT, 0), i);
        }
        return x;
    }

    /** Twelve TYPES, no ENTRY: those of sorts(), and six classes more. */
    static FieldMember fullOfTypes() {
        FieldMember x = sorts();
        for (int t = 6; t < 12; t++) {
            mustBe(x.type(CLASS, t - 1), t);
        }
        return x;
    }

    /** What is furnished, and as many FIELDS of TYPE 5 as make so many ENTRIES. */
    static FieldMember filledTo(int entries) {
        FieldMember x = furnished();
        for (int e = 7; e < entries; e++) {
            mustBe(x.field(e % 2 == 0 ? 5 : 4, e / 2, INT, 0, FINAL), e);
        }
        return x;
    }

    static FieldMember fullButOne() {
        return filledTo(59);
    }

    static FieldMember fullOfEntries() {
        return filledTo(60);
    }
}
