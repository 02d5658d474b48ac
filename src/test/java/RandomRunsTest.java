import java.util.ArrayList;
import java.util.LinkedHashSet;
import java.util.List;
import java.util.Objects;
import java.util.Random;
import java.util.Set;
import java.util.TreeMap;

/** Many runs of calls, always the same ones, answered by the class and by a second telling of the document. */
public final class RandomRunsTest {
    private static final int RUNS = 4000, CALLS = 512;

    private static int wrong = 0;
    /** How often each sort of answer was due: a run that never reaches one would prove nothing of it. */
    private static final TreeMap<String, Integer> REACHED = new TreeMap<>();

    public static void main(String[] args) {
        for (int run = 0; run < RUNS && wrong < 5; run++) {
            oneRun(run);
        }
        for (String needed : needed()) {
            if (!REACHED.containsKey(needed)) {
                wrong++;
                System.out.println("no run reached " + needed);
            }
        }
        System.out.println(RUNS + " runs of " + CALLS + " calls, " + wrong + " faults");
        if (wrong != 0) {
            System.exit(1);
        }
    }

    private static List<String> needed() {
        List<String> all = new ArrayList<>();
        for (int rule = 1; rule <= 25; rule++) {
            if (rule < 8 || rule > 10) {
                all.add("rule " + rule);
            }
        }
        String[] calls = {"type -11", "type -13", "type -15", "face -11", "face -13", "face -14", "face -15", "below -11", "below 0",
            "below 1", "field -11", "field -13", "field -14", "field -15", "constant -11", "constant -12", "constant -14",
            "constant 1", "value thrown.ClassCastException", "value thrown.ArrayIndexOutOfBoundsException", "member -11",
            "member -13", "member -14", "member -15", "member 1", "parameter -11", "parameter -13", "parameter -14",
            "parameter -15", "parameter 5", "end -14", "end 59", "entry -11", "entry -13", "shape -11", "shape -12", "shape -13",
            "shape -1", "parameterOf thrown.ClassCastException", "parameterOf thrown.ArrayIndexOutOfBoundsException",
            "sought -1", "sought -2", "sought -11", "sought -13", "sought 9", "argument -11", "argument -13", "argument -15",
            "call -1", "call -2", "call -11", "call -13", "call 9", "way 0", "way 1", "way 2", "lacks -1", "lacks -11", "lacks 9",
            "count -13", "broken -13", "clear 60"};
        all.addAll(List.of(calls));
        return all;
    }

    private static void oneRun(int run) {
        Random random = new Random(run);
        Caller caller = new Caller(random, run);
        FieldMember x = new FieldMember();
        Telling told = new Telling();
        List<String> log = new ArrayList<>();
        for (int i = 0; i < CALLS; i++) {
            Call call = caller.next(told);
            String due = call.on(told);
            String got = call.on(x);
            log.add(call + " = " + got);
            note(call, due);
            if (!due.equals(got)) {
                wrong++;
                System.out.println("run " + run + ", due is " + due + " at the end of");
                log.forEach(System.out::println);
                return;
            }
        }
    }

    private static void note(Call call, String due) {
        REACHED.merge(call.name + " " + due, 1, Integer::sum);
        boolean mayBreak = Set.of("field", "constant", "member", "parameter", "end").contains(call.name);
        if (mayBreak && due.startsWith("-") && Integer.parseInt(due) < -40) {
            REACHED.merge("rule " + (-40 - Integer.parseInt(due)), 1, Integer::sum);
        }
    }

    /** A call by its name, with up to six numbers; a boolean is the last number's lowest bit. */
    private static final class Call {
        final String name;
        final long[] a;

        Call(String name, long... a) {
            this.name = name;
            this.a = a;
        }

        private int n(int i) {
            return (int) a[i];
        }

        private boolean is(int i) {
            return (a[i] & 1) == 1;
        }

        String on(FieldMember x) {
            try {
                return "" + answer(x);
            } catch (ClassCastException | ArrayIndexOutOfBoundsException e) {
                return "thrown." + e.getClass().getSimpleName();
            }
        }

        private long answer(FieldMember x) {
            switch (name) {
                case "type": return x.type(n(0), n(1));
                case "face": return x.face(n(0), n(1));
                case "below": return x.below(n(0), n(1));
                case "field": return x.field(n(0), n(1), n(2), n(3), n(4));
                case "constant": return x.constant(n(0), a[1]);
                case "value": return x.value(n(0));
                case "member": return x.member(n(0), n(1), n(2), n(3), n(4), is(5));
                case "parameter": return x.parameter(n(0), n(1), is(2));
                case "end": return x.end();
                case "entry": return x.entry(n(0), n(1));
                case "shape": return x.shape(n(0), n(1));
                case "parameterOf": return x.parameterOf(n(0), n(1), is(2));
                case "sought": return x.sought(n(0), n(1));
                case "argument": return x.argument(n(0), n(1));
                case "call": return x.call(n(0), n(1));
                case "way": return x.way();
                case "lacks": return x.lacks(n(0), n(1));
                case "count": return x.count(n(0));
                case "broken": return x.broken(n(0));
                case "clear": return x.clear();
                default: throw new IllegalStateException(name);
            }
        }

        String on(Telling x) {
            try {
                return "" + answer(x);
            } catch (Telling.Said said) {
                return said.answer;
            }
        }

        private long answer(Telling x) {
            switch (name) {
                case "type": return x.type(n(0), n(1));
                case "face": return x.face(n(0), n(1));
                case "below": return x.isBelow(n(0), n(1));
                case "field": return x.field(n(0), n(1), n(2), n(3), n(4));
                case "constant": return x.constant(n(0), a[1]);
                case "value": return x.value(n(0));
                case "member": return x.member(n(0), n(1), n(2), n(3), n(4), is(5));
                case "parameter": return x.parameter(n(0), n(1), is(2));
                case "end": return x.end();
                case "entry": return x.entry(n(0), n(1));
                case "shape": return x.shape(n(0), n(1));
                case "parameterOf": return x.parameterOf(n(0), n(1), is(2));
                case "sought": return x.sought(n(0), n(1));
                case "argument": return x.argument(n(0), n(1));
                case "call": return x.call(n(0), n(1));
                case "way": return x.way;
                case "lacks": return x.lacks(n(0), n(1));
                case "count": return x.count(n(0));
                case "broken": return x.broken(n(0));
                case "clear": return x.clear();
                default: throw new IllegalStateException(name);
            }
        }

        @Override
        public String toString() {
            StringBuilder text = new StringBuilder(name);
            for (int i = 0; i < a.length; i++) {
                text.append(i == 0 ? "(" : ", ").append(a[i]);
            }
            return text.append(a.length == 0 ? "()" : ")").toString();
        }
    }

    /** Chooses calls that mostly do something; each run has its own leaning. */
    private static final class Caller {
        private static final int[] CLASS_MARKS = {0, 0, 0, 1, 1, 1, 2, 4, 8, 9, 16, 17, 24, 128, 129, 130, 256, 257, 512};
        private static final int[] FACE_MARKS = {0, 0, 0, 1, 128, 129, 8, 9, 1024, 1025, 4, 12};
        private static final int[] FIELD_MARKS = {0, 1, 2, 4, 8, 16, 17, 24, 25, 32, 64};

        private final Random random;
        private final int names;
        private final int oddity;
        private final int typesFirst;
        private final boolean fieldsOften;

        Caller(Random random, int run) {
            this.random = random;
            names = run % 7 == 0 ? 50 : 1 + random.nextInt(4);
            oddity = 4 + random.nextInt(60);
            typesFirst = 4 + random.nextInt(40);
            fieldsOften = run % 3 == 0;
        }

        private int calls = 0;

        Call next(Telling now) {
            calls++;
            if (calls < typesFirst && random.nextInt(10) < 8) {
                return random.nextInt(2) == 0 ? newType(now) : newFace(now);
            }
            if (now.begun != null && random.nextInt(10) < 7) {
                return random.nextInt(5) < 2 ? new Call("end") : newParameter(now);
            }
            switch (random.nextInt(40)) {
                case 0: return newType(now);
                case 1: return newFace(now);
                case 2: return new Call("below", type(now), type(now));
                case 3: case 4: return fieldOften(now);
                case 5: case 6: return new Call("constant", entry(now), number());
                case 7: return new Call("value", entry(now));
                case 8: case 9: case 10: case 11: case 12: case 13: return fieldsOften ? fieldOften(now) : newMember(now);
                case 14: return newParameter(now);
                case 15: return new Call("end");
                case 16: return new Call("entry", entry(now), odd() ? wild(7) : random.nextInt(6));
                case 17: return new Call("shape", entry(now), odd() ? wild(5) : random.nextInt(4));
                case 18: return new Call("parameterOf", entry(now), odd() ? wild(6) : random.nextInt(3), random.nextInt(2));
                case 19: case 20: case 21: return new Call("sought", type(now), name());
                case 22: case 23: case 24: case 25: case 26: case 27: return newArgument(now);
                case 28: case 29: case 30: case 31: case 32: return new Call("call", type(now), name());
                case 33: case 34: return new Call("way");
                case 35: case 36: return new Call("lacks", type(now), odd() ? wild(9) : random.nextInt(4));
                case 37: return new Call("count", odd() ? wild(8) : random.nextInt(6));
                case 38: return new Call("broken", odd() ? wild(28) : 1 + random.nextInt(25));
                default: return random.nextInt(12) == 0 ? new Call("clear") : newMember(now);
            }
        }

        private boolean odd() {
            return random.nextInt(oddity) == 0;
        }

        private int wild(int bound) {
            int[] far = {-2, -1, bound, Integer.MAX_VALUE, Integer.MIN_VALUE, random.nextInt()};
            return random.nextInt(3) == 0 ? far[random.nextInt(far.length)] : random.nextInt(bound + 1);
        }

        private int type(Telling now) {
            int size = now.types.size();
            return odd() || size == 0 ? wild(13) : Math.max(random.nextInt(size), random.nextInt(size));
        }

        private int entry(Telling now) {
            return odd() || now.entries.isEmpty() ? wild(61) : random.nextInt(now.entries.size());
        }

        private int name() {
            return odd() ? wild(50) : random.nextInt(names);
        }

        private long number() {
            long edge = 1L << random.nextInt(64);
            switch (random.nextInt(4)) {
                case 0: return random.nextInt(3);
                case 1: return edge + random.nextInt(5) - 2;
                case 2: return -edge + random.nextInt(5) - 2;
                default: return random.nextLong() >> random.nextInt(64);
            }
        }

        private int kind(Telling now) {
            int size = now.types.size();
            if (odd()) {
                return wild(23);
            }
            if (size > 0 && random.nextInt(2) == 0) {
                return 10 + random.nextInt(size);
            }
            return 1 + random.nextInt(8);
        }

        private int dims() {
            if (odd()) {
                return wild(4);
            }
            return random.nextInt(3) == 0 ? 1 + random.nextInt(2) : 0;
        }

        private Call newType(Telling now) {
            int sort = odd() ? wild(4) : random.nextInt(5) * 3 / 4;
            boolean parent = sort != 3 && random.nextInt(3) > 0 || odd();
            return new Call("type", sort, parent ? type(now) : -1);
        }

        private Call newFace(Telling now) {
            int type = type(now);
            int face = type(now);
            for (int i = 0; i < now.types.size() && random.nextInt(8) > 0; i++) {
                face = (i + calls) % now.types.size();
                if (now.types.get(face).sort == 3 && face < type) {
                    break;
                }
            }
            return new Call("face", type, face);
        }

        private Call fieldOften(Telling now) {
            int kind = random.nextInt(20) == 0 ? 0 : kind(now);
            return new Call("field", type(now), name(), kind, dims(), marks(FIELD_MARKS));
        }

        private int marks(int[] likely) {
            if (odd()) {
                return wild(2048);
            }
            int marks = likely[random.nextInt(likely.length)];
            return random.nextInt(8) == 0 ? marks | 1 << random.nextInt(11) : marks;
        }

        private Call newMember(Telling now) {
            int type = type(now);
            boolean face = type >= 0 && type < now.types.size() && now.types.get(type).sort == 3;
            int marks = marks(face ? FACE_MARKS : CLASS_MARKS);
            boolean without = (marks & (128 | 256)) != 0 || face && (marks & (4 | 8 | 1024)) == 0;
            int kind = random.nextInt(3) == 0 ? 0 : random.nextInt(3) == 0 ? kind(now) : 5;
            int dims = kind == 5 || kind == 0 ? 0 : dims();
            boolean body = random.nextInt(10) == 0 ? without : !without;
            return new Call("member", type, name(), kind, dims, marks, body ? 1 : 0);
        }

        private Call newParameter(Telling now) {
            boolean varied = random.nextInt(4) == 0;
            int kind = random.nextInt(30) == 0 ? 0 : random.nextInt(3) == 0 ? 5 : kind(now);
            int dims = varied ? 1 + random.nextInt(2) : dims();
            return new Call("parameter", kind, random.nextInt(20) == 0 ? 0 : dims, varied ? 1 : 0);
        }

        private Call newArgument(Telling now) {
            if (random.nextInt(6) == 0) {
                return new Call("argument", 9, odd() ? 1 : 0);
            }
            return new Call("argument", random.nextInt(3) == 0 ? 2 + random.nextInt(4) : kind(now), dims());
        }
    }

    /** The document told a second time, with lists, sets and recursion, and the library's own bits of floats. */
    private static final class Telling {
        /** An answer that ends a call. */
        static final class Said extends RuntimeException {
            private static final long serialVersionUID = 1L;
            final String answer;

            Said(String answer) {
                super(null, null, false, false);
                this.answer = answer;
            }
        }

        static final class Ty {
            int sort;
            int parent;
            final Set<Integer> faces = new LinkedHashSet<>();
        }

        record Value(int kind, int dims) { }

        static final class En {
            boolean member;
            int type;
            int name;
            Value result;
            int marks;
            boolean body;
            boolean varied;
            int met = -1;
            Long constant;
            final List<Value> parameters = new ArrayList<>();

            boolean has(int bit) {
                return (marks >> bit & 1) == 1;
            }

            boolean like(En other) {
                return member && other.member && name == other.name && parameters.equals(other.parameters);
            }
        }

        final List<Ty> types = new ArrayList<>();
        final List<En> entries = new ArrayList<>();
        final List<Value> arguments = new ArrayList<>();
        final TreeMap<Integer, Integer> broken = new TreeMap<>();
        En begun;
        int way;

        private static void say(boolean when, int answer) {
            if (when) {
                throw new Said("" + answer);
            }
        }

        private void rule(boolean when, int number) {
            if (when) {
                broken.merge(number, 1, Integer::sum);
                throw new Said("" + (-40 - number));
            }
        }

        private static boolean in(long n, long from, long to) {
            return from <= n && n <= to;
        }

        private boolean noType(int t) {
            return !in(t, 0, types.size() - 1);
        }

        private boolean noKind(int kind) {
            return kind > 9 && noType(kind - 10);
        }

        private boolean isFace(int t) {
            return types.get(t).sort == 3;
        }

        int type(int sort, int parent) {
            say(!in(sort, 0, 3), -13);
            if (parent != -1) {
                say(sort == 3 || noType(parent) || types.get(parent).sort > 1, -11);
            }
            say(types.size() == 12, -15);
            Ty made = new Ty();
            made.sort = sort;
            made.parent = parent;
            types.add(made);
            return types.size() - 1;
        }

        int face(int t, int f) {
            say(noType(t) || noType(f) || !isFace(f), -11);
            say(f >= t, -13);
            Set<Integer> faces = types.get(t).faces;
            say(faces.contains(f) || !entries.isEmpty() || begun != null, -14);
            say(faces.size() == 3, -15);
            faces.add(f);
            return faces.size();
        }

        private boolean below(int t, int other) {
            if (t == other) {
                return true;
            }
            Ty it = types.get(t);
            return it.parent >= 0 && below(it.parent, other) || it.faces.stream().anyMatch(f -> below(f, other));
        }

        int isBelow(int t, int other) {
            say(noType(t) || noType(other), -11);
            return below(t, other) ? 1 : 0;
        }

        private void refuse(int t, int name, int kind, int dims, int marks) {
            say(noType(t) || noKind(kind), -11);
            say(!in(name, 0, 49) || kind < 0 || kind == 9 || !in(dims, 0, 3) || kind == 0 && dims > 0 || !in(marks, 0, 2047), -13);
            say(begun != null, -14);
            say(entries.size() == 60, -15);
        }

        private static int several(En e, int... bits) {
            int found = 0;
            for (int bit : bits) {
                found += e.has(bit) ? 1 : 0;
            }
            return found;
        }

        private static En made(int t, int name, int kind, int dims, int marks) {
            En made = new En();
            made.type = t;
            made.name = name;
            made.result = new Value(kind, dims);
            made.marks = marks;
            return made;
        }

        int field(int t, int name, int kind, int dims, int marks) {
            refuse(t, name, kind, dims, marks);
            En e = made(t, name, kind, dims, marks);
            rule(several(e, 7, 8, 9, 10) > 0, 1);
            rule(several(e, 0, 1, 2) > 1, 2);
            rule(e.has(4) && e.has(5), 3);
            rule(isFace(t) && several(e, 1, 2, 5, 6) > 0, 4);
            rule(kind == 0, 5);
            rule(entries.stream().anyMatch(o -> !o.member && o.type == t && o.name == name), 6);
            if (isFace(t)) {
                e.marks |= 1 + 8 + 16;
            }
            entries.add(e);
            return entries.size() - 1;
        }

        int constant(int entry, long v) {
            say(!in(entry, 0, entries.size() - 1), -11);
            En e = entries.get(entry);
            say(e.member, -12);
            int kind = e.result.kind;
            say(e.constant != null || !e.has(4) || !in(kind, 1, 8) || e.result.dims != 0, -14);
            rule(kind == 1 && !in(v, 0, 1) || kind == 2 && !in(v, Byte.MIN_VALUE, Byte.MAX_VALUE)
                || kind == 3 && !in(v, Short.MIN_VALUE, Short.MAX_VALUE) || kind == 4 && !in(v, 0, Character.MAX_VALUE)
                || kind == 5 && !in(v, Integer.MIN_VALUE, Integer.MAX_VALUE), 7);
            e.constant = kind == 7 ? (long) Float.floatToIntBits((float) v)
                : kind == 8 ? Double.doubleToLongBits((double) v) : v;
            return 1;
        }

        private En thrown(int entry, boolean member) {
            if (!in(entry, 0, entries.size() - 1)) {
                throw new Said("thrown.ArrayIndexOutOfBoundsException");
            }
            if (entries.get(entry).member != member) {
                throw new Said("thrown.ClassCastException");
            }
            return entries.get(entry);
        }

        long value(int entry) {
            return Objects.requireNonNullElse(thrown(entry, false).constant, 0L);
        }

        int member(int t, int name, int kind, int dims, int marks, boolean body) {
            refuse(t, name, kind, dims, marks);
            En e = made(t, name, kind, dims, marks);
            boolean face = isFace(t);
            rule(e.has(5) || e.has(6), 11);
            rule(several(e, 0, 1, 2) > 1, 12);
            rule(!face && e.has(10), 13);
            rule(face && (several(e, 1, 4, 8, 9) > 0 || several(e, 3, 7, 10) > 1 || e.has(2) && several(e, 7, 10) > 0), 13);
            rule(!face && e.has(7) && several(e, 2, 3, 4, 8, 9) > 0, 14);
            rule(!face && e.has(7) && types.get(t).sort != 1, 15);
            boolean bare = e.has(7) || e.has(8) || face && several(e, 2, 3, 10) == 0;
            rule(body && bare, 16);
            rule(!body && !bare, 17);
            if (face && !e.has(2)) {
                e.marks |= 1;
            }
            if (face && several(e, 2, 3, 10) == 0) {
                e.marks |= 128;
            }
            e.member = true;
            e.body = body;
            begun = e;
            return 1;
        }

        int parameter(int kind, int dims, boolean varied) {
            say(begun == null, -14);
            say(noKind(kind), -11);
            say(kind < 0 || kind == 9 || !in(dims, 0, 3) || kind == 0 && dims > 0, -13);
            say(begun.parameters.size() == 5, -15);
            rule(kind == 0, 18);
            rule(begun.varied, 19);
            rule(varied && dims == 0, 20);
            begun.varied = varied;
            begun.parameters.add(new Value(kind, dims));
            return begun.parameters.size();
        }

        private static int sight(En e) {
            return e.has(0) ? 0 : e.has(1) ? 1 : e.has(2) ? 3 : 2;
        }

        private boolean staticOfFace(En e) {
            return e.has(3) && isFace(e.type);
        }

        int end() {
            say(begun == null, -14);
            En e = begun;
            begun = null;
            rule(entries.stream().anyMatch(o -> o.type == e.type && o.like(e)), 21);
            if (!e.has(2) && !staticOfFace(e)) {
                for (En o : entries) {
                    if (o.like(e) && !o.has(2) && o.type != e.type && below(e.type, o.type) && !staticOfFace(o)) {
                        rule(o.has(4), 22);
                        rule(o.has(3) ^ e.has(3), 23);
                        boolean narrower = e.result.dims == 0 && o.result.dims == 0 && e.result.kind > 9 && o.result.kind > 9
                            && below(e.result.kind - 10, o.result.kind - 10);
                        rule(!e.result.equals(o.result) && !narrower, 24);
                        rule(sight(e) > sight(o), 25);
                        e.met = e.met == -1 ? entries.indexOf(o) : e.met;
                    }
                }
            }
            entries.add(e);
            return entries.size() - 1;
        }

        int entry(int entry, int what) {
            say(!in(entry, 0, entries.size() - 1), -11);
            say(!in(what, 0, 5), -13);
            En e = entries.get(entry);
            return List.of(e.member ? 1 : 0, e.type, e.name, e.result.kind, e.result.dims, e.marks).get(what);
        }

        int shape(int entry, int what) {
            say(!in(entry, 0, entries.size() - 1), -11);
            En e = entries.get(entry);
            say(!e.member, -12);
            say(!in(what, 0, 3), -13);
            return List.of(e.parameters.size(), e.varied ? 1 : 0, e.body ? 1 : 0, e.met).get(what);
        }

        int parameterOf(int entry, int i, boolean dims) {
            List<Value> parameters = thrown(entry, true).parameters;
            if (!in(i, 0, parameters.size() - 1)) {
                throw new Said("thrown.ArrayIndexOutOfBoundsException");
            }
            return dims ? parameters.get(i).dims : parameters.get(i).kind;
        }

        private int find(int t, int name) {
            for (int e = 0; e < entries.size(); e++) {
                En own = entries.get(e);
                if (!own.member && own.type == t && own.name == name) {
                    return e;
                }
            }
            Set<Integer> all = new LinkedHashSet<>();
            int parent = types.get(t).parent;
            if (parent >= 0) {
                int found = find(parent, name);
                if (found < 0 || !entries.get(found).has(2)) {
                    all.add(found);
                }
            }
            types.get(t).faces.forEach(f -> all.add(find(f, name)));
            all.remove(-1);
            return all.isEmpty() ? -1 : all.size() > 1 ? -2 : all.iterator().next();
        }

        int sought(int t, int name) {
            say(noType(t), -11);
            say(!in(name, 0, 49), -13);
            return find(t, name);
        }

        int argument(int kind, int dims) {
            say(noKind(kind), -11);
            say(kind < 1 || !in(dims, 0, 3) || kind == 9 && dims > 0, -13);
            say(arguments.size() == 5, -15);
            arguments.add(new Value(kind, dims));
            return arguments.size();
        }

        private boolean fits(Value from, Value to) {
            String[] wider = {"", "", "35678", "5678", "5678", "678", "78", "8", ""};
            if (from.equals(to)) {
                return true;
            }
            if (from.kind == 9) {
                return to.dims > 0 || to.kind > 9;
            }
            if (from.dims != to.dims) {
                return false;
            }
            if (from.kind > 9) {
                return to.kind > 9 && below(from.kind - 10, to.kind - 10);
            }
            return from.dims == 0 && to.kind < 9 && wider[from.kind].contains("" + to.kind);
        }

        private boolean allFit(List<Value> from, List<Value> to) {
            for (int i = 0; i < from.size(); i++) {
                if (!fits(from.get(i), to.get(i))) {
                    return false;
                }
            }
            return true;
        }

        /** The PARAMETERS with the last one as its items, over so many places. */
        private static List<Value> spread(En e, int places) {
            int last = e.parameters.size() - 1;
            List<Value> all = new ArrayList<>(e.parameters.subList(0, last));
            while (all.size() < places) {
                all.add(new Value(e.parameters.get(last).kind, e.parameters.get(last).dims - 1));
            }
            return all;
        }

        private boolean nearer(En e, En o) {
            if (way == 1) {
                return allFit(e.parameters, o.parameters);
            }
            int places = Math.max(arguments.size(), Math.max(e.parameters.size(), o.parameters.size()));
            return allFit(spread(e, places), spread(o, places));
        }

        int call(int t, int name) {
            say(noType(t), -11);
            say(!in(name, 0, 49), -13);
            List<En> reached = new ArrayList<>(entries);
            reached.removeIf(e -> !e.member || e.name != name || !below(t, e.type));
            reached.removeIf(e -> e.type != t && (e.has(2) || staticOfFace(e)));
            List<En> candidates = new ArrayList<>(reached);
            candidates.removeIf(e -> reached.stream().anyMatch(o -> o != e && o.like(e) && below(o.type, e.type)));
            List<En> found = new ArrayList<>(candidates);
            found.removeIf(e -> e.parameters.size() != arguments.size() || !allFit(arguments, e.parameters));
            way = 1;
            if (found.isEmpty()) {
                way = 2;
                found.addAll(candidates);
                found.removeIf(e -> !e.varied || arguments.size() < e.parameters.size() - 1
                    || !allFit(arguments, spread(e, arguments.size())));
            }
            List<En> nearest = new ArrayList<>(found);
            nearest.removeIf(e -> found.stream().anyMatch(o -> o != e && !nearer(e, o)));
            int answer = found.isEmpty() ? -1 : nearest.size() != 1 ? -2 : entries.indexOf(nearest.get(0));
            way = answer < 0 ? 0 : way;
            arguments.clear();
            return answer;
        }

        int lacks(int t, int i) {
            say(noType(t), -11);
            List<Integer> all = new ArrayList<>();
            for (int e = 0; e < entries.size(); e++) {
                En it = entries.get(e);
                if (it.member && it.has(7) && below(t, it.type) && entries.stream().noneMatch(o -> fills(t, it, o))) {
                    all.add(e);
                }
            }
            boolean whole = types.get(t).sort == 0 || types.get(t).sort == 2;
            return whole && in(i, 0, all.size() - 1) ? all.get(i) : -1;
        }

        private boolean fills(int t, En lacking, En o) {
            if (!o.like(lacking) || !below(t, o.type)) {
                return false;
            }
            return isFace(o.type) ? o.has(10) : (o.body || o.has(8)) && !o.has(3) && !o.has(2);
        }

        int count(int what) {
            say(!in(what, 0, 5), -13);
            int all = broken.values().stream().mapToInt(Integer::intValue).sum();
            int open = begun == null ? 0 : begun.parameters.size();
            return List.of(types.size(), entries.size(), begun == null ? 0 : 1, open, arguments.size(), all).get(what);
        }

        int broken(int number) {
            say(!in(number, 1, 25), -13);
            return broken.getOrDefault(number, 0);
        }

        int clear() {
            int gone = entries.size();
            types.clear();
            entries.clear();
            arguments.clear();
            broken.clear();
            begun = null;
            way = 0;
            return gone;
        }
    }
}
