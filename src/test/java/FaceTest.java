import java.lang.reflect.Constructor;
import java.lang.reflect.Field;
import java.lang.reflect.Method;
import java.lang.reflect.Modifier;
import java.util.Arrays;
import java.util.Set;
import java.util.TreeSet;

/** The class has the document's face, and by LANGUAGE.md (rules 1, 2, 5) nothing else that can be seen. */
public final class FaceTest {
    private static final String[] METHODS = {
        "int type(int,int)", "int face(int,int)", "int below(int,int)", "int field(int,int,int,int,int)",
        "int constant(int,long)", "long value(int) ClassCastException,ArrayIndexOutOfBoundsException",
        "int member(int,int,int,int,int,boolean)", "int parameter(int,int,boolean)", "int end()", "int entry(int,int)",
        "int shape(int,int)", "int parameterOf(int,int,boolean) ClassCastException,ArrayIndexOutOfBoundsException",
        "int sought(int,int)", "int argument(int,int)", "int call(int,int)", "int way()", "int lacks(int,int)",
        "int count(int)", "int broken(int)", "int clear()"};
    private static final String[] CONSTANTS = {
        "NONE=-1", "CLASH=-2", "UNKNOWN=-11", "CAST=-12", "OUTSIDE=-13", "STATE=-14", "FULL=-15"};

    private static int wrong = 0;

    public static void main(String[] args) throws IllegalAccessException {
        check(FieldMember.class.getModifiers() == (Modifier.PUBLIC | Modifier.FINAL), "the class is not public and final");
        checkConstructors();
        checkMethods();
        checkFields();
        checkClassesInside();
        System.out.println(wrong == 0 ? "the face is as told" : wrong + " things about the face are not as told");
        if (wrong != 0) {
            System.exit(1);
        }
    }

    private static void check(boolean holds, String fault) {
        if (!holds) {
            wrong++;
            System.out.println(fault);
        }
    }

    private static void checkConstructors() {
        Constructor<?>[] all = FieldMember.class.getDeclaredConstructors();
        check(all.length == 1 && all[0].getParameterCount() == 0 && all[0].getModifiers() == Modifier.PUBLIC,
            "there is not one public constructor alone");
    }

    private static void checkMethods() {
        Set<String> told = new TreeSet<>(Arrays.asList(METHODS));
        Set<String> there = new TreeSet<>();
        Set<String> names = new TreeSet<>();
        for (Method m : FieldMember.class.getDeclaredMethods()) {
            if (m.getModifiers() == Modifier.PUBLIC) {
                there.add(textOf(m));
                names.add(m.getName());
            }
        }
        check(there.equals(told), "public methods are " + there + ", told are " + told);
        for (Method m : FieldMember.class.getDeclaredMethods()) {
            boolean hidden = Modifier.isPrivate(m.getModifiers());
            check(hidden || m.getModifiers() == Modifier.PUBLIC, m + " is neither public nor private");
            check(!hidden || !names.contains(m.getName()), m + " bears the name of a public one");
        }
        for (Class<?> inside : FieldMember.class.getDeclaredClasses()) {
            for (Method m : inside.getDeclaredMethods()) {
                check(!names.contains(m.getName()), m + " bears the name of a public one");
            }
        }
    }

    private static String textOf(Method m) {
        StringBuilder text = new StringBuilder(m.getReturnType() + " " + m.getName() + "(");
        join(text, m.getParameterTypes());
        text.append(")");
        if (m.getExceptionTypes().length > 0) {
            text.append(" ");
            join(text, m.getExceptionTypes());
        }
        return text.toString();
    }

    private static void join(StringBuilder text, Class<?>[] types) {
        for (int i = 0; i < types.length; i++) {
            text.append(i == 0 ? "" : ",").append(types[i].getSimpleName());
        }
    }

    private static void checkFields() throws IllegalAccessException {
        Set<String> there = new TreeSet<>();
        for (Field f : FieldMember.class.getDeclaredFields()) {
            int marks = f.getModifiers();
            if (marks == (Modifier.PUBLIC | Modifier.STATIC | Modifier.FINAL) && f.getType() == int.class) {
                there.add(f.getName() + "=" + f.getInt(null));
            } else {
                check(Modifier.isPrivate(marks), f + " can be seen");
            }
            check(!Modifier.isStatic(marks) || Modifier.isFinal(marks), f + " is static and not final");
        }
        check(there.equals(new TreeSet<>(Arrays.asList(CONSTANTS))), "constants are " + there);
    }

    private static void checkClassesInside() {
        for (Class<?> inside : FieldMember.class.getDeclaredClasses()) {
            int marks = inside.getModifiers();
            check(Modifier.isStatic(marks) && !Modifier.isPublic(marks) && !Modifier.isProtected(marks), inside + " can be seen");
            for (Field f : inside.getDeclaredFields()) {
                check(!Modifier.isStatic(f.getModifiers()) || Modifier.isFinal(f.getModifiers()), f + " is static and not final");
            }
        }
    }
}
