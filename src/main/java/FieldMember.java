/** Fields and members of types as they are declared, sought and called; the document is ../shared/DOC.md. */
public final class FieldMember {
    public static final int NONE = -1, CLASH = -2, UNKNOWN = -11, CAST = -12, OUTSIDE = -13, STATE = -14, FULL = -15;

    private static final int MOST_TYPES = 12, MOST_FACES = 3, MOST_ENTRIES = 60, MOST_PLACES = 5;
    private static final int LAST_NAME = 49, LAST_DIMS = 3, LAST_RULE = 25;

    private static final int SORT_CLASS = 0, SORT_ABSTRACT = 1, SORT_FINAL = 2, SORT_FACE = 3;

    private static final int VOID = 0, BOOLEAN = 1, BYTE = 2, SHORT = 3, CHAR = 4, INT = 5;
    private static final int FLOAT = 7, DOUBLE = 8, LINK = 9, FIRST_TYPE = 10;

    private static final int PUBLIC = 1, PROTECTED = 1 << 1, PRIVATE = 1 << 2, STATIC = 1 << 3, FINAL = 1 << 4;
    private static final int VOLATILE = 1 << 5, TRANSIENT = 1 << 6, ABSTRACT = 1 << 7, NATIVE = 1 << 8;
    private static final int SYNCHRONIZED = 1 << 9, DEFAULT = 1 << 10, ALL_MARKS = (1 << 11) - 1;
    private static final int SIGHT = PUBLIC | PROTECTED | PRIVATE;

    /** What a check answers that finds nothing to refuse, and no RULE broken. */
    private static final int FREE = 0;
    private static final int RULES_FROM = -40;

    private static final int AS_MANY = 1, BY_VARIED = 2;

    private final Types types;
    private final Entry[] entries;
    private int entryCount;
    private Member begun;
    private final Row arguments;
    private int latestWay;
    private final int[] brokenTimes;
    private int brokenInAll;
    private final int[] foundFields;
    private final boolean[] candidates;
    private final boolean[] fitting;

    public FieldMember() {
        types = new Types();
        entries = new Entry[MOST_ENTRIES];
        arguments = new Row();
        brokenTimes = new int[LAST_RULE + 1];
        foundFields = new int[MOST_TYPES];
        candidates = new boolean[MOST_ENTRIES];
        fitting = new boolean[MOST_ENTRIES];
    }

    public int type(int sort, int parent) {
        if (sort < SORT_CLASS || sort > SORT_FACE) {
            return OUTSIDE;
        }
        if (parent != NONE && (sort == SORT_FACE || !types.mayBeParent(parent))) {
            return UNKNOWN;
        }
        return types.add(sort, parent);
    }

    public int face(int type, int face) {
        if (!types.has(type) || !types.isFace(face)) {
            return UNKNOWN;
        }
        if (face >= type) {
            return OUTSIDE;
        }
        if (types.hasFace(type, face) || entryCount > 0 || begun != null) {
            return STATE;
        }
        return types.addFace(type, face);
    }

    public int below(int type, int other) {
        if (!types.has(type) || !types.has(other)) {
            return UNKNOWN;
        }
        return asNumber(types.isBelow(type, other));
    }

    public int field(int type, int name, int kind, int dims, int marks) {
        int refusal = refusalOfNew(type, name, kind, dims, marks);
        if (refusal != FREE) {
            return refusal;
        }
        boolean inFace = types.isFace(type);
        int rule = Rules.ofField(kind, marks, inFace);
        if (rule == FREE && ownField(type, name) != NONE) {
            rule = 6;
        }
        if (rule != FREE) {
            return breakRule(rule);
        }
        int inAnyCase = inFace ? PUBLIC | STATIC | FINAL : 0;
        return addEntry(new Field(type, name, kind, dims, marks | inAnyCase));
    }

    public int constant(int entry, long v) {
        Entry found = entryAt(entry);
        if (found == null) {
            return UNKNOWN;
        }
        if (!(found instanceof Field field)) {
            return CAST;
        }
        if (field.told || !field.mayHaveConstant()) {
            return STATE;
        }
        if (!Constants.isOfKind(field.kind, v)) {
            return breakRule(7);
        }
        field.told = true;
        field.constant = v;
        return 1;
    }

    public long value(int entry) throws ClassCastException, ArrayIndexOutOfBoundsException {
        Entry found = entryAt(entry);
        if (found == null) {
            throw new ArrayIndexOutOfBoundsException("no such ENTRY");
        }
        if (!(found instanceof Field field)) {
            throw new ClassCastException("a MEMBER has no CONSTANT");
        }
        return field.told ? Constants.asLong(field.kind, field.constant) : 0L;
    }

    public int member(int type, int name, int kind, int dims, int marks, boolean body) {
        int refusal = refusalOfNew(type, name, kind, dims, marks);
        if (refusal != FREE) {
            return refusal;
        }
        boolean inFace = types.isFace(type);
        int rule = inFace ? Rules.ofFaceMember(marks, body)
            : Rules.ofClassMember(marks, body, types.sortOf(type) == SORT_ABSTRACT);
        if (rule != FREE) {
            return breakRule(rule);
        }
        int allMarks = inFace ? marks | Rules.faceMarks(marks) : marks;
        begun = new Member(type, name, kind, dims, allMarks, body);
        return 1;
    }

    public int parameter(int kind, int dims, boolean varied) {
        if (begun == null) {
            return STATE;
        }
        if (isUnknownKind(kind)) {
            return UNKNOWN;
        }
        if (!mayBeDeclared(kind, dims)) {
            return OUTSIDE;
        }
        if (begun.parameters.isFull()) {
            return FULL;
        }
        int rule = Rules.ofParameter(kind, dims, varied, begun.varied);
        if (rule != FREE) {
            return breakRule(rule);
        }
        begun.varied = varied;
        return begun.parameters.add(kind, dims);
    }

    public int end() {
        if (begun == null) {
            return STATE;
        }
        Member ended = begun;
        begun = null;
        int rule = isDeclaredTwice(ended) ? 21 : ruleOfMeetings(ended);
        if (rule != FREE) {
            return breakRule(rule);
        }
        ended.met = leastMet(ended);
        return addEntry(ended);
    }

    public int entry(int entry, int what) {
        Entry found = entryAt(entry);
        if (found == null) {
            return UNKNOWN;
        }
        switch (what) {
            case 0: return asNumber(found instanceof Member);
            case 1: return found.type;
            case 2: return found.name;
            case 3: return found.kind;
            case 4: return found.dims;
            case 5: return found.marks;
            default: return OUTSIDE;
        }
    }

    public int shape(int entry, int what) {
        Entry found = entryAt(entry);
        if (found == null) {
            return UNKNOWN;
        }
        if (!(found instanceof Member member)) {
            return CAST;
        }
        switch (what) {
            case 0: return member.parameters.size;
            case 1: return asNumber(member.varied);
            case 2: return asNumber(member.body);
            case 3: return member.met;
            default: return OUTSIDE;
        }
    }

    public int parameterOf(int entry, int i, boolean dims) throws ClassCastException, ArrayIndexOutOfBoundsException {
        Entry found = entryAt(entry);
        if (found == null) {
            throw new ArrayIndexOutOfBoundsException("no such ENTRY");
        }
        if (!(found instanceof Member member)) {
            throw new ClassCastException("a FIELD has no PARAMETERS");
        }
        Row parameters = member.parameters;
        if (i < 0 || i >= parameters.size) {
            throw new ArrayIndexOutOfBoundsException("no such PARAMETER");
        }
        return dims ? parameters.dimsAt(i) : parameters.kindAt(i);
    }

    public int sought(int type, int name) {
        if (!types.has(type)) {
            return UNKNOWN;
        }
        if (!isName(name)) {
            return OUTSIDE;
        }
        // PARENT and FACES are earlier TYPES: going up by number, what they find is known already.
        for (int t = 0; t < type; t++) {
            foundFields[t] = fieldFoundIn(t, name);
        }
        return fieldFoundIn(type, name);
    }

    public int argument(int kind, int dims) {
        if (isUnknownKind(kind)) {
            return UNKNOWN;
        }
        if (!mayBeArgument(kind, dims)) {
            return OUTSIDE;
        }
        return arguments.add(kind, dims);
    }

    public int call(int type, int name) {
        if (!types.has(type)) {
            return UNKNOWN;
        }
        if (!isName(name)) {
            return OUTSIDE;
        }
        markCandidates(type, name);
        int tried = AS_MANY;
        boolean any = markFitting(false);
        if (!any) {
            tried = BY_VARIED;
            any = markFitting(true);
        }
        int answer = any ? nearestFitting(tried == BY_VARIED) : NONE;
        latestWay = answer >= 0 ? tried : 0;
        arguments.empty();
        return answer;
    }

    public int way() {
        return latestWay;
    }

    public int lacks(int type, int i) {
        if (!types.has(type)) {
            return UNKNOWN;
        }
        if (!types.mustLackNothing(type)) {
            return NONE;
        }
        int passed = 0;
        for (int e = 0; e < entryCount; e++) {
            if (entries[e] instanceof Member each && isLacking(type, each)) {
                if (passed == i) {
                    return e;
                }
                passed++;
            }
        }
        return NONE;
    }

    public int count(int what) {
        switch (what) {
            case 0: return types.size;
            case 1: return entryCount;
            case 2: return asNumber(begun != null);
            case 3: return begun == null ? 0 : begun.parameters.size;
            case 4: return arguments.size;
            case 5: return brokenInAll;
            default: return OUTSIDE;
        }
    }

    public int broken(int rule) {
        return rule >= 1 && rule <= LAST_RULE ? brokenTimes[rule] : OUTSIDE;
    }

    public int clear() {
        int gone = entryCount;
        for (int e = 0; e < entryCount; e++) {
            entries[e] = null;
        }
        for (int rule = 0; rule <= LAST_RULE; rule++) {
            brokenTimes[rule] = 0;
        }
        brokenInAll = 0;
        entryCount = 0;
        begun = null;
        latestWay = 0;
        arguments.empty();
        types.empty();
        return gone;
    }

    private static int asNumber(boolean holds) {
        return holds ? 1 : 0;
    }

    private static boolean isName(int name) {
        return name >= 0 && name <= LAST_NAME;
    }

    private boolean isUnknownKind(int kind) {
        return kind >= FIRST_TYPE && !types.has(kind - FIRST_TYPE);
    }

    private static boolean areDims(int dims) {
        return dims >= 0 && dims <= LAST_DIMS;
    }

    private static boolean mayBeDeclared(int kind, int dims) {
        return kind >= VOID && kind != LINK && areDims(dims) && (kind != VOID || dims == 0);
    }

    private static boolean mayBeArgument(int kind, int dims) {
        return kind > VOID && areDims(dims) && (kind != LINK || dims == 0);
    }

    /** What FIELDS and MEMBERS are refused for alike, in the document's order. */
    private int refusalOfNew(int type, int name, int kind, int dims, int marks) {
        if (!types.has(type) || isUnknownKind(kind)) {
            return UNKNOWN;
        }
        if (!isName(name) || !mayBeDeclared(kind, dims) || marks < 0 || marks > ALL_MARKS) {
            return OUTSIDE;
        }
        if (begun != null) {
            return STATE;
        }
        return entryCount >= MOST_ENTRIES ? FULL : FREE;
    }

    private int breakRule(int rule) {
        if (rule >= 1 && rule <= LAST_RULE) {
            brokenTimes[rule]++;
            brokenInAll++;
        }
        return RULES_FROM - rule;
    }

    private Entry entryAt(int entry) {
        return entry >= 0 && entry < entryCount ? entries[entry] : null;
    }

    private int addEntry(Entry added) {
        if (entryCount >= MOST_ENTRIES) {
            return FULL;
        }
        entries[entryCount] = added;
        entryCount++;
        return entryCount - 1;
    }

    private int ownField(int type, int name) {
        for (int e = 0; e < entryCount; e++) {
            Entry each = entries[e];
            if (each instanceof Field && each.type == type && each.name == name) {
                return e;
            }
        }
        return NONE;
    }

    private boolean isDeclaredTwice(Member ended) {
        for (int e = 0; e < entryCount; e++) {
            if (entries[e] instanceof Member each && each.type == ended.type && each.isLike(ended)) {
                return true;
            }
        }
        return false;
    }

    private int ruleOfMeetings(Member ended) {
        for (int e = 0; e < entryCount; e++) {
            if (entries[e] instanceof Member each && meets(ended, each)) {
                int rule = ruleOfMeeting(ended, each);
                if (rule != FREE) {
                    return rule;
                }
            }
        }
        return FREE;
    }

    private int leastMet(Member ended) {
        for (int e = 0; e < entryCount; e++) {
            if (entries[e] instanceof Member each && meets(ended, each)) {
                return e;
            }
        }
        return NONE;
    }

    private boolean meets(Member ended, Member other) {
        return other.type != ended.type && types.isBelow(ended.type, other.type) && other.isLike(ended)
            && !ended.hasAny(PRIVATE) && !other.hasAny(PRIVATE)
            && !isStaticOfFace(ended) && !isStaticOfFace(other);
    }

    private boolean isStaticOfFace(Member member) {
        return member.hasAny(STATIC) && types.isFace(member.type);
    }

    private int ruleOfMeeting(Member ended, Member met) {
        if (met.hasAny(FINAL)) {
            return 22;
        }
        if (met.hasAny(STATIC) != ended.hasAny(STATIC)) {
            return 23;
        }
        if (!mayStandForResult(ended, met)) {
            return 24;
        }
        return Rules.sightOf(ended.marks) < Rules.sightOf(met.marks) ? 25 : FREE;
    }

    private boolean mayStandForResult(Member ended, Member met) {
        if (ended.kind == met.kind && ended.dims == met.dims) {
            return true;
        }
        return ended.dims == 0 && met.dims == 0 && areBelow(ended.kind, met.kind);
    }

    /** Whether both KINDS are TYPES, the first one BELOW the other. */
    private boolean areBelow(int kind, int toKind) {
        return kind >= FIRST_TYPE && toKind >= FIRST_TYPE && types.isBelow(kind - FIRST_TYPE, toKind - FIRST_TYPE);
    }

    private int fieldFoundIn(int type, int name) {
        int own = ownField(type, name);
        if (own != NONE) {
            return own;
        }
        int found = foundThroughParent(types.parentOf(type));
        for (int f = 0; f < type && f < MOST_TYPES; f++) {
            if (types.hasFace(type, f)) {
                found = oneOfBoth(found, foundFields[f]);
            }
        }
        return found;
    }

    private int foundThroughParent(int parent) {
        if (parent < 0 || parent >= MOST_TYPES) {
            return NONE;
        }
        Entry found = entryAt(foundFields[parent]);
        // A private FIELD is not found from below, and still hides what is above it.
        return found != null && found.hasAny(PRIVATE) ? NONE : foundFields[parent];
    }

    /** Two findings as one; a CLASH differs from every ENTRY, so it stays one. */
    private static int oneOfBoth(int found, int other) {
        if (found == NONE || found == other) {
            return other;
        }
        return other == NONE ? found : CLASH;
    }

    private void markCandidates(int type, int name) {
        for (int e = 0; e < entryCount; e++) {
            candidates[e] = entries[e] instanceof Member each && each.name == name && isReachedFrom(type, each);
        }
    }

    private boolean isReachedFrom(int type, Member member) {
        if (member.type == type) {
            return true;
        }
        return types.isBelow(type, member.type) && !member.hasAny(PRIVATE) && !isStaticOfFace(member);
    }

    /** Marks the CANDIDATES that FIT the arguments; whether there are any. */
    private boolean markFitting(boolean byItems) {
        boolean any = false;
        for (int e = 0; e < entryCount; e++) {
            fitting[e] = candidates[e] && entries[e] instanceof Member each
                && takesArguments(each, byItems) && !isStoodFor(each);
            any = any || fitting[e];
        }
        return any;
    }

    private boolean isStoodFor(Member member) {
        for (int e = 0; e < entryCount; e++) {
            if (candidates[e] && entries[e] instanceof Member each && each.type != member.type
                && types.isBelow(each.type, member.type) && each.isLike(member)) {
                return true;
            }
        }
        return false;
    }

    private boolean takesArguments(Member member, boolean byItems) {
        if (!mayTakeAsMany(member, byItems)) {
            return false;
        }
        for (int i = 0; i < arguments.size; i++) {
            if (!fits(arguments.kindAt(i), arguments.dimsAt(i), member.kindAt(i, byItems), member.dimsAt(i, byItems))) {
                return false;
            }
        }
        return true;
    }

    private boolean mayTakeAsMany(Member member, boolean byItems) {
        int own = member.parameters.size;
        return byItems ? member.varied && arguments.size >= own - 1 : arguments.size == own;
    }

    private int nearestFitting(boolean byItems) {
        int nearest = CLASH;
        for (int e = 0; e < entryCount; e++) {
            if (fitting[e] && entries[e] instanceof Member each && isNearest(each, byItems)) {
                if (nearest != CLASH) {
                    return CLASH;
                }
                nearest = e;
            }
        }
        return nearest;
    }

    private boolean isNearest(Member member, boolean byItems) {
        for (int e = 0; e < entryCount; e++) {
            if (fitting[e] && entries[e] instanceof Member each && !fitsPlaceByPlace(member, each, byItems)) {
                return false;
            }
        }
        return true;
    }

    /** Every MEMBER FITS itself so, and need not be left out of the others. */
    private boolean fitsPlaceByPlace(Member member, Member other, boolean byItems) {
        int places = Math.max(arguments.size, Math.max(member.parameters.size, other.parameters.size));
        for (int i = 0; i < places; i++) {
            if (!fits(member.kindAt(i, byItems), member.dimsAt(i, byItems),
                other.kindAt(i, byItems), other.dimsAt(i, byItems))) {
                return false;
            }
        }
        return true;
    }

    private boolean fits(int kind, int dims, int toKind, int toDims) {
        if (kind == LINK) {
            return toDims > 0 || toKind >= FIRST_TYPE;
        }
        if (dims != toDims) {
            return false;
        }
        return kind == toKind || areBelow(kind, toKind) || dims == 0 && widens(kind, toKind);
    }

    /** The number KINDS stand in the order in which they widen, but that nothing widens to char. */
    private static boolean widens(int kind, int toKind) {
        return kind >= BYTE && kind < toKind && toKind <= DOUBLE && toKind != CHAR;
    }

    private boolean isLacking(int type, Member member) {
        if (!member.hasAny(ABSTRACT) || !types.isBelow(type, member.type)) {
            return false;
        }
        for (int e = 0; e < entryCount; e++) {
            if (entries[e] instanceof Member each && each.isLike(member)
                && types.isBelow(type, each.type) && mayFill(each)) {
                return false;
            }
        }
        return true;
    }

    private boolean mayFill(Member member) {
        if (types.isFace(member.type)) {
            return member.hasAny(DEFAULT);
        }
        return (member.body || member.hasAny(NATIVE)) && !member.hasAny(STATIC | PRIVATE);
    }

    /** The TYPES by number; what a TYPE is BELOW, and its FACES, are bits by TYPE. */
    private static final class Types {
        final int[] sorts = new int[MOST_TYPES];
        final int[] parents = new int[MOST_TYPES];
        final int[] faces = new int[MOST_TYPES];
        final int[] above = new int[MOST_TYPES];
        int size;

        boolean has(int type) {
            return type >= 0 && type < size;
        }

        int sortOf(int type) {
            return has(type) ? sorts[type] : NONE;
        }

        int parentOf(int type) {
            return has(type) ? parents[type] : NONE;
        }

        boolean isFace(int type) {
            return sortOf(type) == SORT_FACE;
        }

        boolean mayBeParent(int type) {
            return sortOf(type) == SORT_CLASS || sortOf(type) == SORT_ABSTRACT;
        }

        boolean mustLackNothing(int type) {
            return sortOf(type) == SORT_CLASS || sortOf(type) == SORT_FINAL;
        }

        boolean hasFace(int type, int face) {
            return has(type) && has(face) && (faces[type] >> face & 1) == 1;
        }

        boolean isBelow(int type, int other) {
            return type >= 0 && type < size && other >= 0 && other < size && (above[type] >> other & 1) == 1;
        }

        int add(int sort, int parent) {
            if (size >= MOST_TYPES) {
                return FULL;
            }
            sorts[size] = sort;
            parents[size] = parent;
            faces[size] = 0;
            size++;
            above[size - 1] = allAbove(size - 1);
            return size - 1;
        }

        int addFace(int type, int face) {
            if (!has(type) || !has(face)) {
                return UNKNOWN;
            }
            if (Integer.bitCount(faces[type]) >= MOST_FACES) {
                return FULL;
            }
            faces[type] |= 1 << face;
            // Later TYPES that are BELOW this one get the FACE too.
            for (int t = type; t < size; t++) {
                above[t] = allAbove(t);
            }
            return Integer.bitCount(faces[type]);
        }

        void empty() {
            size = 0;
        }

        private int allAbove(int type) {
            int all = 1 << type;
            for (int t = 0; t < type && t < size; t++) {
                if (t == parentOf(type) || hasFace(type, t)) {
                    all |= above[t];
                }
            }
            return all;
        }
    }

    /** Values by KIND and DIMS: the PARAMETERS of a MEMBER, or the arguments of a CALL. */
    private static final class Row {
        final int[] kinds = new int[MOST_PLACES];
        final int[] dims = new int[MOST_PLACES];
        int size;

        boolean isFull() {
            return size >= MOST_PLACES;
        }

        /** How many there are then. */
        int add(int kind, int itsDims) {
            if (isFull()) {
                return FULL;
            }
            kinds[size] = kind;
            dims[size] = itsDims;
            size++;
            return size;
        }

        void empty() {
            size = 0;
        }

        int kindAt(int i) {
            return i >= 0 && i < size ? kinds[i] : NONE;
        }

        int dimsAt(int i) {
            return i >= 0 && i < size ? dims[i] : NONE;
        }

        boolean isSame(Row other) {
            if (size != other.size) {
                return false;
            }
            for (int i = 0; i < size; i++) {
                if (kindAt(i) != other.kindAt(i) || dimsAt(i) != other.dimsAt(i)) {
                    return false;
                }
            }
            return true;
        }
    }

    private abstract static class Entry {
        final int type;
        final int name;
        final int kind;
        final int dims;
        final int marks;

        Entry(int type, int name, int kind, int dims, int marks) {
            this.type = type;
            this.name = name;
            this.kind = kind;
            this.dims = dims;
            this.marks = marks;
        }

        boolean hasAny(int ofMarks) {
            return (marks & ofMarks) != 0;
        }
    }

    private static final class Field extends Entry {
        boolean told;
        long constant;

        Field(int type, int name, int kind, int dims, int marks) {
            super(type, name, kind, dims, marks);
        }

        boolean mayHaveConstant() {
            return hasAny(FINAL) && dims == 0 && kind >= BOOLEAN && kind <= DOUBLE;
        }
    }

    private static final class Member extends Entry {
        final boolean body;
        final Row parameters;
        boolean varied;
        int met;

        Member(int type, int name, int kind, int dims, int marks, boolean body) {
            super(type, name, kind, dims, marks);
            this.body = body;
            parameters = new Row();
            met = NONE;
        }

        boolean isLike(Member other) {
            return name == other.name && parameters.isSame(other.parameters);
        }

        /** The KIND at place i; by items the last PARAMETER goes on for ever. */
        int kindAt(int i, boolean byItems) {
            return parameters.kindAt(byItems && isItem(i) ? parameters.size - 1 : i);
        }

        int dimsAt(int i, boolean byItems) {
            return byItems && isItem(i) ? parameters.dimsAt(parameters.size - 1) - 1 : parameters.dimsAt(i);
        }

        private boolean isItem(int i) {
            return i >= parameters.size - 1;
        }
    }

    /** The RULES that a new FIELD, MEMBER or PARAMETER breaks by itself: the first one's number, or FREE. */
    private static final class Rules {
        static int ofField(int kind, int marks, boolean inFace) {
            int ofFields = SIGHT | STATIC | FINAL | VOLATILE | TRANSIENT;
            if ((marks & ~ofFields) != 0) {
                return 1;
            }
            if (hasSeveral(marks, SIGHT)) {
                return 2;
            }
            if (hasSeveral(marks, FINAL | VOLATILE)) {
                return 3;
            }
            if (inFace && (marks & ~(PUBLIC | STATIC | FINAL)) != 0) {
                return 4;
            }
            return kind == VOID ? 5 : FREE;
        }

        static int ofFaceMember(int marks, boolean body) {
            int rule = ofAnyMember(marks);
            if (rule != FREE) {
                return rule;
            }
            boolean barred = hasAny(marks, PROTECTED | FINAL | SYNCHRONIZED | NATIVE)
                || hasSeveral(marks, STATIC | DEFAULT | ABSTRACT)
                || hasAny(marks, PRIVATE) && hasAny(marks, DEFAULT | ABSTRACT);
            return barred ? 13 : ofBody(body, !hasAny(marks, PRIVATE | STATIC | DEFAULT));
        }

        static int ofClassMember(int marks, boolean body, boolean inAbstract) {
            int rule = ofAnyMember(marks);
            if (rule != FREE) {
                return rule;
            }
            if (hasAny(marks, DEFAULT)) {
                return 13;
            }
            if (hasAny(marks, ABSTRACT) && hasAny(marks, PRIVATE | STATIC | FINAL | NATIVE | SYNCHRONIZED)) {
                return 14;
            }
            if (hasAny(marks, ABSTRACT) && !inAbstract) {
                return 15;
            }
            return ofBody(body, hasAny(marks, ABSTRACT | NATIVE));
        }

        static int ofParameter(int kind, int dims, boolean varied, boolean variedAlready) {
            if (kind == VOID) {
                return 18;
            }
            if (variedAlready) {
                return 19;
            }
            return varied && dims == 0 ? 20 : FREE;
        }

        /** The MARKS that a MEMBER of a FACE has in any case. */
        static int faceMarks(int marks) {
            int seen = hasAny(marks, PRIVATE) ? 0 : PUBLIC;
            return hasAny(marks, PRIVATE | STATIC | DEFAULT) ? seen : seen | ABSTRACT;
        }

        /** How far a MEMBER is seen: the farther, the greater. */
        static int sightOf(int marks) {
            if (hasAny(marks, PUBLIC)) {
                return 3;
            }
            if (hasAny(marks, PROTECTED)) {
                return 2;
            }
            return hasAny(marks, PRIVATE) ? 0 : 1;
        }

        private static int ofAnyMember(int marks) {
            if (hasAny(marks, VOLATILE | TRANSIENT)) {
                return 11;
            }
            return hasSeveral(marks, SIGHT) ? 12 : FREE;
        }

        private static int ofBody(boolean body, boolean without) {
            if (body == without) {
                return body ? 16 : 17;
            }
            return FREE;
        }

        private static boolean hasAny(int marks, int of) {
            return (marks & of) != 0;
        }

        private static boolean hasSeveral(int marks, int of) {
            return Integer.bitCount(marks & of) > 1;
        }
    }

    /** CONSTANTS of a KIND, told by a long. */
    private static final class Constants {
        private static final int FLOAT_FRACTION = 23, FLOAT_BIAS = 127, DOUBLE_FRACTION = 52, DOUBLE_BIAS = 1023;
        private static final long FLOAT_SIGN = -(1L << 31), DOUBLE_SIGN = 1L << 63;

        static boolean isOfKind(int kind, long v) {
            switch (kind) {
                case BOOLEAN: return v == 0L || v == 1L;
                case BYTE: return v == (byte) v;
                case SHORT: return v == (short) v;
                case CHAR: return v == (char) v;
                case INT: return v == (int) v;
                default: return true;
            }
        }

        static long asLong(int kind, long v) {
            if (kind == FLOAT) {
                long bits = bitsOf(v < 0 ? -v : v, FLOAT_FRACTION, FLOAT_BIAS);
                return v < 0 ? bits + FLOAT_SIGN : bits;
            }
            if (kind == DOUBLE) {
                long bits = bitsOf(v < 0 ? -v : v, DOUBLE_FRACTION, DOUBLE_BIAS);
                return v < 0 ? bits + DOUBLE_SIGN : bits;
            }
            return v;
        }

        /** LANGUAGE.md leaves no Float and no Double, so the bits of the nearest one are made of the whole number. */
        private static long bitsOf(long size, int fraction, int bias) {
            if (size == 0L) {
                return 0L;
            }
            int highest = highestBit(size);
            // The leading 1 of the fraction is added to the exponent, and so is a carry of the rounding.
            return ((long) (highest + bias - 1) << fraction) + roundedOff(size, highest - fraction);
        }

        /** The size is without a sign: 2 to the 63rd stands as the least long. */
        private static int highestBit(long size) {
            int highest = 63;
            while (highest > 0 && (size >>> highest) == 0L) {
                highest--;
            }
            return highest;
        }

        /** Without its lowest bits, to the nearest, to the even one of two that are as near. */
        private static long roundedOff(long size, int bits) {
            if (bits <= 0) {
                return size << -bits;
            }
            long kept = size >>> bits;
            long lost = size & ((1L << bits) - 1L);
            long half = 1L << (bits - 1);
            boolean up = lost > half || lost == half && (kept & 1L) == 1L;
            return up ? kept + 1L : kept;
        }
    }
}
