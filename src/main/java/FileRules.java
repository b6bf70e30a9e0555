/**
 * Reads class files of static methods by rules of layout, told one after the other:
 * the first one that is broken, and where.
 */
public final class FileRules {
    private static final int NONE = -1;

    private static final int MOST_IN_TRAY = 16000;
    private static final int MOST_FED = 65536;
    private static final int ONE_FEED = 20;
    private static final int MOST_POOL = 500;
    private static final int MOST_MEMBERS = 24;
    private static final int CATCH_LENGTH = 8;

    private static final int NAME = 1;
    private static final int INT = 3;
    private static final int LONG = 5;
    private static final int CLASS = 7;
    private static final int FIELD = 9;
    private static final int METHOD = 10;
    private static final int PAIR = 12;

    private final Verdict verdict;
    // The tray is an image too: a file that breaks no rule becomes the latest one without a copy.
    private Image tray;
    private Image latest;
    private boolean known;
    private int fed;

    public FileRules() {
        verdict = new Verdict();
        tray = new Image();
        latest = new Image();
        known = false;
        fed = 0;
    }

    public int feed(int a, int b, int c, int d, int e) {
        if (tray.bytes.count > MOST_IN_TRAY - ONE_FEED || fed > MOST_FED - ONE_FEED) {
            return -1;
        }
        fed += ONE_FEED;
        tray.bytes.append(a);
        tray.bytes.append(b);
        tray.bytes.append(c);
        tray.bytes.append(d);
        tray.bytes.append(e);
        return tray.bytes.count;
    }

    public boolean end(int n) {
        if (n < 0 || n > tray.bytes.count) {
            return false;
        }
        tray.bytes.count = n;
        return true;
    }

    public int read() {
        verdict.clear();
        if (keepsAllRules(tray)) {
            Image before = latest;
            latest = tray;
            tray = before;
            known = true;
        }
        tray.bytes.count = 0;
        return verdict.rule;
    }

    public int place() {
        return verdict.place;
    }

    public int size(int what) {
        if (!known) {
            return -1;
        }
        switch (what) {
            case 0:
                return latest.fieldCount;
            case 1:
                return latest.methodCount;
            case 2:
                return latest.pool.count;
            default:
                return -1;
        }
    }

    public int field(int k) {
        if (k < 0 || k >= latest.fieldCount) {
            return -1;
        }
        return at(latest.pool.types, latest.typeOf(at(latest.fields, k)));
    }

    public int method(int m, int what) {
        Body body = latest.bodyOf(m);
        if (body == null) {
            return -1;
        }
        switch (what) {
            case 0:
                return body.rowCount;
            case 1:
                return body.stack;
            case 2:
                return body.locals;
            case 3:
                return body.parameters;
            case 4:
                return body.catchCount;
            case 5:
                return at(latest.pool.results, latest.typeOf(at(latest.methods, m)));
            default:
                return -1;
        }
    }

    public int code(int m, int i) {
        int p = latest.instructionPlace(m, i);
        return p == NONE ? -1 : Instructions.kindAt(latest.bytes, p);
    }

    public int first(int m, int i) {
        Body body = latest.bodyOf(m);
        int p = latest.instructionPlace(m, i);
        if (body == null || p == NONE) {
            return 0;
        }
        return Links.firstNumber(latest, body, p);
    }

    public int target(int m, int i, int k) {
        Body body = latest.bodyOf(m);
        int p = latest.instructionPlace(m, i);
        if (body == null || p == NONE) {
            return -1;
        }
        if (k < 0 || k >= Instructions.targetCount(latest.bytes, p, body.start)) {
            return -1;
        }
        return latest.numberAt(body, Instructions.targetPlace(latest.bytes, p, body.start, k));
    }

    private boolean keepsAllRules(Image file) {
        return Layout.keeps(file, verdict)
            && keepsNameRules(file)
            && Layout.keepsInBodies(file, verdict)
            && verdict.keeps(15, Links.wrongInstruction(file))
            && verdict.keeps(16, Links.wrongLink(file));
    }

    private boolean keepsNameRules(Image file) {
        return verdict.keeps(6, Names.wrongEntry(file.pool))
            && verdict.keeps(7, Names.wrongFlags(file))
            && verdict.keeps(8, Names.wrongClass(file))
            && verdict.keeps(9, Names.wrongName(file))
            && verdict.keeps(10, Names.wrongType(file))
            && verdict.keeps(11, Names.repeatedName(file))
            && verdict.keeps(12, Names.wrongCode(file))
            && verdict.keeps(17, file.last == file.bytes.count ? NONE : file.last);
    }

    private static int at(int[] row, int i) {
        return i >= 0 && i < row.length ? row[i] : NONE;
    }

    private static void put(int[] row, int i, int number) {
        if (i >= 0 && i < row.length) {
            row[i] = number;
        }
    }

    /** The rule that the latest file breaks, and where. */
    private static final class Verdict {
        int rule;
        int place;

        Verdict() {
            clear();
        }

        void clear() {
            rule = 0;
            place = NONE;
        }

        // Answers NONE, so that a walk can hand it on as the place that it did not reach.
        int broken(int brokenRule, int where) {
            rule = brokenRule;
            place = where;
            return NONE;
        }

        boolean keeps(int lookedAt, int brokenWhere) {
            if (brokenWhere == NONE) {
                return true;
            }
            broken(lookedAt, brokenWhere);
            return false;
        }
    }

    /** Bytes with a limit: what is asked for outside of them is 0. */
    private static final class Bytes {
        private final byte[] row;
        int count;

        Bytes(int most) {
            row = new byte[Math.max(most, 0)];
            count = 0;
        }

        void append(int number) {
            for (int shift = 24; shift >= 0; shift -= 8) {
                if (count >= 0 && count < row.length) {
                    row[count] = (byte) (number >> shift);
                    count++;
                }
            }
        }

        int u1(int p) {
            return p >= 0 && p < count && p < row.length ? row[p] & 255 : 0;
        }

        int s1(int p) {
            return (byte) u1(p);
        }

        int u2(int p) {
            if (p < 0 || p > count - 2 || p > row.length - 2) {
                return 0;
            }
            return (row[p] & 255) << 8 | row[p + 1] & 255;
        }

        int s2(int p) {
            return (short) u2(p);
        }

        int s4(int p) {
            if (p < 0 || p > count - 4 || p > row.length - 4) {
                return 0;
            }
            return row[p] << 24 | (row[p + 1] & 255) << 16 | (row[p + 2] & 255) << 8 | row[p + 3] & 255;
        }
    }

    /** The pool of a file. */
    private static final class Pool {
        final Bytes bytes;
        // By the entry's number: where its tag is, and its tag; 0 for a number that is no entry.
        final int[] places;
        final int[] sorts;
        // Of a NAME how many letters it has, and what they say as a type: see Types.
        final int[] lengths;
        final int[] types;
        final int[] results;
        final int[] parameters;
        // Of a FIELD or METHOD the number of this file's field or method that it tells, or NONE.
        final int[] members;
        int count;

        Pool(Bytes bytes) {
            this.bytes = bytes;
            places = new int[MOST_POOL];
            sorts = new int[MOST_POOL];
            lengths = new int[MOST_POOL];
            types = new int[MOST_POOL];
            results = new int[MOST_POOL];
            parameters = new int[MOST_POOL];
            members = new int[MOST_POOL];
            count = 0;
        }

        void clear(int newCount) {
            count = newCount;
            for (int k = 0; k < newCount; k++) {
                put(places, k, 0);
                put(sorts, k, 0);
                put(lengths, k, 0);
                put(types, k, 0);
                put(results, k, 0);
                put(parameters, k, 0);
                put(members, k, NONE);
            }
        }

        void add(int k, int place) {
            int sort = bytes.u1(place);
            put(places, k, place);
            put(sorts, k, sort);
            put(lengths, k, sort == NAME ? bytes.u2(place + 1) : 0);
        }

        boolean is(int sort, int k) {
            return k > 0 && k < count && at(sorts, k) == sort;
        }

        int part(int k, int number) {
            return bytes.u2(at(places, k) + 1 + 2 * number);
        }

        boolean same(int name, int other) {
            int length = at(lengths, name);
            if (length < 1 || length != at(lengths, other)) {
                return false;
            }
            for (int i = 0; i < length; i++) {
                if (bytes.u1(at(places, name) + 3 + i) != bytes.u1(at(places, other) + 3 + i)) {
                    return false;
                }
            }
            return true;
        }

        boolean says(int name, String text) {
            if (at(lengths, name) != text.length()) {
                return false;
            }
            for (int i = 0; i < text.length(); i++) {
                if (bytes.u1(at(places, name) + 3 + i) != text.charAt(i)) {
                    return false;
                }
            }
            return true;
        }
    }

    /** The attribute Code of a method. */
    private static final class Body {
        int attribute;
        int stack;
        int locals;
        int parameters;
        int start;
        int length;
        int catches;
        int catchCount;
        int firstRow;
        int rowCount;
    }

    /** A file: its bytes, and where its parts stand in them. */
    private static final class Image {
        final Bytes bytes;
        final Pool pool;
        // The places of their flags.
        final int[] fields;
        final int[] methods;
        final Body[] bodies;
        // The places of all instructions, method by method.
        final int[] instructions;
        int fieldCount;
        int methodCount;
        int classPlace;
        int attributes;
        int last;

        Image() {
            bytes = new Bytes(MOST_IN_TRAY);
            pool = new Pool(bytes);
            fields = new int[MOST_MEMBERS];
            methods = new int[MOST_MEMBERS];
            bodies = new Body[MOST_MEMBERS];
            for (int m = 0; m < bodies.length; m++) {
                bodies[m] = new Body();
            }
            instructions = new int[MOST_IN_TRAY];
            fieldCount = 0;
            methodCount = 0;
            classPlace = 0;
            attributes = 0;
            last = 0;
        }

        int nameOf(int member) {
            return bytes.u2(member + 2);
        }

        int typeOf(int member) {
            return bytes.u2(member + 4);
        }

        Body bodyOf(int m) {
            return m >= 0 && m < methodCount && m < bodies.length ? bodies[m] : null;
        }

        int instructionPlace(int m, int i) {
            Body body = bodyOf(m);
            if (body == null || i < 0 || i >= body.rowCount) {
                return NONE;
            }
            return at(instructions, body.firstRow + i);
        }

        // The number of the instruction that begins there, NONE if none does.
        int numberAt(Body body, int p) {
            int low = 0;
            int high = body.rowCount - 1;
            while (low <= high) {
                int middle = (low + high) >> 1;
                int found = at(instructions, body.firstRow + middle);
                if (found == p) {
                    return middle;
                }
                if (found < p) {
                    low = middle + 1;
                } else {
                    high = middle - 1;
                }
            }
            return NONE;
        }
    }

    /** What the letters of NAMEs say, read as types: 1 int, 2 long, 4 ints, 0 no type. */
    private static final class Types {
        private static final int NOTHING = 7;

        static void learn(Pool pool) {
            for (int k = 1; k < pool.count; k++) {
                if (pool.is(NAME, k)) {
                    int from = at(pool.places, k) + 3;
                    int end = from + at(pool.lengths, k);
                    put(pool.types, k, wholeFrom(pool.bytes, from, end));
                    if (pool.bytes.u1(from) == '(') {
                        learnMethod(pool, k, from + 1, end);
                    }
                }
            }
        }

        // What is no method's type keeps the result 0.
        private static void learnMethod(Pool pool, int k, int from, int end) {
            int p = from;
            int places = 0;
            int kind = kindAt(pool.bytes, p, end);
            while (p < end && kind != 0) {
                places += kind == 2 ? 2 : 1;
                p += lettersOf(kind);
                kind = kindAt(pool.bytes, p, end);
            }
            if (p >= end || pool.bytes.u1(p) != ')') {
                return;
            }
            put(pool.parameters, k, places);
            if (p + 2 == end && pool.bytes.u1(p + 1) == 'V') {
                put(pool.results, k, NOTHING);
            } else {
                put(pool.results, k, wholeFrom(pool.bytes, p + 1, end));
            }
        }

        private static int wholeFrom(Bytes bytes, int p, int end) {
            int kind = kindAt(bytes, p, end);
            return kind != 0 && p + lettersOf(kind) == end ? kind : 0;
        }

        private static int kindAt(Bytes bytes, int p, int end) {
            if (p < end && bytes.u1(p) == 'I') {
                return 1;
            }
            if (p < end && bytes.u1(p) == 'J') {
                return 2;
            }
            return p + 1 < end && bytes.u1(p) == '[' && bytes.u1(p + 1) == 'I' ? 4 : 0;
        }

        private static int lettersOf(int kind) {
            return kind == 4 ? 2 : 1;
        }
    }

    /** A part of the file that is walked from the left; an item beyond its end breaks a rule there. */
    private static final class Stretch {
        final Bytes bytes;
        final Verdict verdict;
        final int end;
        final int ruleBeyond;

        Stretch(Bytes bytes, Verdict verdict, int end, int ruleBeyond) {
            this.bytes = bytes;
            this.verdict = verdict;
            this.end = end;
            this.ruleBeyond = ruleBeyond;
        }

        // Each of these answers the place behind an item, or NONE if it breaks a rule.

        int behind(int p, int length) {
            if (length < 0 || length > end - p) {
                return verdict.broken(ruleBeyond, end);
            }
            return p + length;
        }

        int behindU2(int p, int low, int high, int rule) {
            int next = behind(p, 2);
            if (next != NONE && (bytes.u2(p) < low || bytes.u2(p) > high)) {
                return verdict.broken(rule, p);
            }
            return next;
        }

        int behindAttributes(int p) {
            int next = behind(p, 2);
            int count = next == NONE ? 0 : bytes.u2(p);
            for (int i = 0; i < count && next != NONE; i++) {
                int attribute = next;
                next = behind(attribute, 6);
                if (next != NONE) {
                    // A length with the highest bit set is below 0 here: it too goes beyond the end.
                    next = behind(next, bytes.s4(attribute + 2));
                }
            }
            return next;
        }
    }

    /** Rules 1 to 5 in one walk from the left, and 13 and 14 in one for each method. */
    private static final class Layout {
        private static final int[] HEAD = {202, 254, 186, 190, 0, 0, 0, 49};
        private static final int LONGEST_NAME = 100;
        private static final int MOST_PLACES = 24;
        private static final int LONGEST_CODE = 1200;
        private static final int MOST_CATCHES = 16;

        static boolean keeps(Image file, Verdict verdict) {
            Stretch stretch = new Stretch(file.bytes, verdict, file.bytes.count, 2);
            int p = behindHead(stretch);
            if (p != NONE) {
                p = behindPool(stretch, file.pool, p);
            }
            if (p != NONE) {
                Types.learn(file.pool);
                file.classPlace = p;
                p = stretch.behind(p, 8);
            }
            if (p != NONE) {
                file.fieldCount = file.bytes.u2(p);
                p = behindMembers(stretch, file.fields, p);
            }
            if (p != NONE) {
                file.methodCount = file.bytes.u2(p);
                p = behindMembers(stretch, file.methods, p);
            }
            if (p != NONE) {
                file.attributes = p;
                p = stretch.behindAttributes(p);
            }
            file.last = p;
            return p != NONE;
        }

        private static int behindHead(Stretch stretch) {
            for (int p = 0; p < HEAD.length; p++) {
                if (p >= stretch.end) {
                    return stretch.verdict.broken(2, stretch.end);
                }
                if (stretch.bytes.u1(p) != HEAD[p]) {
                    return stretch.verdict.broken(1, p);
                }
            }
            return HEAD.length;
        }

        private static int behindPool(Stretch stretch, Pool pool, int p) {
            int next = stretch.behindU2(p, 1, MOST_POOL, 5);
            if (next == NONE) {
                return NONE;
            }
            pool.clear(stretch.bytes.u2(p));
            for (int k = 1; k < pool.count && next != NONE; k++) {
                pool.add(k, next);
                next = behindEntry(stretch, next);
                if (pool.is(LONG, k)) {
                    k++;
                }
            }
            return next;
        }

        private static int behindEntry(Stretch stretch, int p) {
            if (stretch.behind(p, 1) == NONE) {
                return NONE;
            }
            int tag = stretch.bytes.u1(p);
            if (tag == NAME) {
                return behindName(stretch, p);
            }
            int length = entryLength(tag);
            return length == 0 ? stretch.verdict.broken(3, p) : stretch.behind(p, length);
        }

        private static int entryLength(int tag) {
            switch (tag) {
                case INT:
                case PAIR:
                case FIELD:
                case METHOD:
                    return 5;
                case LONG:
                    return 9;
                case CLASS:
                    return 3;
                default:
                    return 0;
            }
        }

        private static int behindName(Stretch stretch, int p) {
            if (stretch.behind(p, 3) == NONE) {
                return NONE;
            }
            int length = stretch.bytes.u2(p + 1);
            if (length < 1 || length > LONGEST_NAME) {
                return stretch.verdict.broken(4, p);
            }
            // Of a NAME that is cut off too, as its tag stands before the file's end.
            int lettersEnd = Math.min(p + 3 + length, stretch.end);
            for (int i = p + 3; i < lettersEnd; i++) {
                if (stretch.bytes.u1(i) < 33 || stretch.bytes.u1(i) > 126) {
                    return stretch.verdict.broken(4, p);
                }
            }
            return stretch.behind(p, 3 + length);
        }

        private static int behindMembers(Stretch stretch, int[] members, int p) {
            int next = stretch.behindU2(p, 0, MOST_MEMBERS, 5);
            int count = next == NONE ? 0 : stretch.bytes.u2(p);
            for (int i = 0; i < count && next != NONE; i++) {
                put(members, i, next);
                next = stretch.behind(next, 6);
                if (next != NONE) {
                    next = stretch.behindAttributes(next);
                }
            }
            return next;
        }

        static boolean keepsInBodies(Image file, Verdict verdict) {
            for (int m = 0; m < file.methodCount; m++) {
                Body body = file.bodyOf(m);
                if (body == null) {
                    return false;
                }
                body.parameters = at(file.pool.parameters, file.typeOf(at(file.methods, m)));
                int start = body.attribute + 6;
                int end = start + file.bytes.s4(body.attribute + 2);
                if (!keepsInBody(body, new Stretch(file.bytes, verdict, end, 14), start)) {
                    return false;
                }
            }
            return true;
        }

        private static boolean keepsInBody(Body body, Stretch stretch, int start) {
            int p = behindCode(body, stretch, start);
            if (p != NONE) {
                p = behindCatches(body, stretch, p);
            }
            if (p != NONE) {
                p = stretch.behindAttributes(p);
            }
            if (p != NONE && p != stretch.end) {
                p = stretch.verdict.broken(14, p);
            }
            return p != NONE;
        }

        private static int behindCode(Body body, Stretch stretch, int start) {
            body.stack = stretch.bytes.u2(start);
            int p = stretch.behindU2(start, 0, MOST_PLACES, 13);
            if (p == NONE) {
                return NONE;
            }
            body.locals = stretch.bytes.u2(p);
            p = stretch.behindU2(p, body.parameters, MOST_PLACES, 13);
            if (p == NONE || stretch.behind(p, 4) == NONE) {
                return NONE;
            }
            body.start = p + 4;
            body.length = stretch.bytes.s4(p);
            if (body.length < 1 || body.length > LONGEST_CODE) {
                return stretch.verdict.broken(13, p);
            }
            return stretch.behind(body.start, body.length);
        }

        private static int behindCatches(Body body, Stretch stretch, int p) {
            int next = stretch.behindU2(p, 0, MOST_CATCHES, 13);
            if (next == NONE) {
                return NONE;
            }
            body.catchCount = stretch.bytes.u2(p);
            body.catches = next;
            return stretch.behind(next, body.catchCount * CATCH_LENGTH);
        }
    }

    /** Rules 6 to 12: each answers the first place that breaks it, or NONE. */
    private static final class Names {
        private static final int CLASS_FLAGS = 33;
        private static final int MEMBER_FLAGS = 9;
        private static final int MOST_PARAMETERS = 8;

        static int wrongEntry(Pool pool) {
            for (int k = 1; k < pool.count; k++) {
                if (!pointsToItsSorts(pool, k)) {
                    return at(pool.places, k);
                }
            }
            return NONE;
        }

        private static boolean pointsToItsSorts(Pool pool, int k) {
            switch (at(pool.sorts, k)) {
                case CLASS:
                    return pool.is(NAME, pool.part(k, 0));
                case PAIR:
                    return pool.is(NAME, pool.part(k, 0)) && pool.is(NAME, pool.part(k, 1));
                case FIELD:
                case METHOD:
                    return pool.is(CLASS, pool.part(k, 0)) && pool.is(PAIR, pool.part(k, 1));
                default:
                    return true;
            }
        }

        static int wrongFlags(Image file) {
            if (file.bytes.u2(file.classPlace) != CLASS_FLAGS) {
                return file.classPlace;
            }
            int p = wrongMemberFlags(file.bytes, file.fields, file.fieldCount);
            return p != NONE ? p : wrongMemberFlags(file.bytes, file.methods, file.methodCount);
        }

        private static int wrongMemberFlags(Bytes bytes, int[] members, int count) {
            for (int i = 0; i < count; i++) {
                if (bytes.u2(at(members, i)) != MEMBER_FLAGS) {
                    return at(members, i);
                }
            }
            return NONE;
        }

        static int wrongClass(Image file) {
            int p = file.classPlace + 2;
            if (!file.pool.is(CLASS, file.bytes.u2(p))) {
                return p;
            }
            if (!file.pool.is(CLASS, file.bytes.u2(p + 2))) {
                return p + 2;
            }
            return file.bytes.u2(p + 4) == 0 ? NONE : p + 4;
        }

        static int wrongName(Image file) {
            int p = wrongMemberName(file, file.fields, file.fieldCount);
            if (p == NONE) {
                p = wrongMemberName(file, file.methods, file.methodCount);
            }
            return p != NONE ? p : wrongAttributeName(file, file.attributes);
        }

        private static int wrongMemberName(Image file, int[] members, int count) {
            for (int i = 0; i < count; i++) {
                int member = at(members, i);
                if (!file.pool.is(NAME, file.nameOf(member))) {
                    return member + 2;
                }
                if (!file.pool.is(NAME, file.typeOf(member))) {
                    return member + 4;
                }
                int p = wrongAttributeName(file, member + 6);
                if (p != NONE) {
                    return p;
                }
            }
            return NONE;
        }

        private static int wrongAttributeName(Image file, int attributes) {
            int count = file.bytes.u2(attributes);
            int p = attributes + 2;
            for (int i = 0; i < count; i++) {
                if (!file.pool.is(NAME, file.bytes.u2(p))) {
                    return p;
                }
                p += 6 + file.bytes.s4(p + 2);
            }
            return NONE;
        }

        static int wrongType(Image file) {
            Pool pool = file.pool;
            for (int k = 1; k < pool.count; k++) {
                if (!pairSuits(pool, k)) {
                    return at(pool.places, k);
                }
            }
            for (int i = 0; i < file.fieldCount; i++) {
                int member = at(file.fields, i);
                if (at(pool.types, file.typeOf(member)) == 0) {
                    return member + 4;
                }
            }
            for (int i = 0; i < file.methodCount; i++) {
                int member = at(file.methods, i);
                int type = file.typeOf(member);
                if (at(pool.results, type) == 0 || at(pool.parameters, type) > MOST_PARAMETERS) {
                    return member + 4;
                }
            }
            return NONE;
        }

        private static boolean pairSuits(Pool pool, int k) {
            if (pool.is(FIELD, k)) {
                return at(pool.types, pool.part(pool.part(k, 1), 1)) != 0;
            }
            if (pool.is(METHOD, k)) {
                return at(pool.results, pool.part(pool.part(k, 1), 1)) != 0;
            }
            return true;
        }

        static int repeatedName(Image file) {
            int p = repeatedMemberName(file, file.fields, file.fieldCount);
            return p != NONE ? p : repeatedMemberName(file, file.methods, file.methodCount);
        }

        private static int repeatedMemberName(Image file, int[] members, int count) {
            for (int i = 0; i < count; i++) {
                for (int earlier = 0; earlier < i; earlier++) {
                    if (file.pool.same(file.nameOf(at(members, i)), file.nameOf(at(members, earlier)))) {
                        return at(members, i) + 2;
                    }
                }
            }
            return NONE;
        }

        static int wrongCode(Image file) {
            for (int m = 0; m < file.methodCount; m++) {
                Body body = file.bodyOf(m);
                int member = at(file.methods, m);
                if (body == null || !findsOneCode(file, body, member + 6)) {
                    return member;
                }
            }
            return NONE;
        }

        private static boolean findsOneCode(Image file, Body body, int attributes) {
            int found = 0;
            int count = file.bytes.u2(attributes);
            int p = attributes + 2;
            for (int i = 0; i < count; i++) {
                if (file.pool.says(file.bytes.u2(p), "Code")) {
                    body.attribute = p;
                    found++;
                }
                p += 6 + file.bytes.s4(p + 2);
            }
            return found == 1;
        }
    }

    /** How instructions are written. A place is one in the file, a start that of their code. */
    private static final class Instructions {
        static final int PUSH_INT = 300;
        static final int PUSH_LONG = 301;
        static final int INT_OF_POOL = 18;
        static final int FAR_INT_OF_POOL = 19;
        static final int LONG_OF_POOL = 20;
        static final int GROW = 132;
        static final int GOTO = 167;
        static final int FAR_GOTO = 200;
        static final int TABLE = 170;
        static final int LOOKUP = 171;
        static final int GET = 178;
        static final int PUT = 179;
        static final int CALL = 184;
        private static final int NEW = 188;
        private static final int WIDE = 196;
        private static final int MOST_TARGETS = 200;

        // Of the instructions by number, ten in a row; 0 where there is none, or one without a fixed length.
        private static final int[] LENGTHS = {
            1, 1, 1, 1, 1, 1, 1, 1, 1, 1,
            1, 0, 0, 0, 0, 0, 2, 3, 2, 3,
            3, 2, 2, 0, 0, 2, 1, 1, 1, 1,
            1, 1, 1, 1, 0, 0, 0, 0, 0, 0,
            0, 0, 1, 1, 1, 1, 1, 0, 0, 0,
            0, 0, 0, 0, 2, 2, 0, 0, 2, 1,
            1, 1, 1, 1, 1, 1, 1, 0, 0, 0,
            0, 0, 0, 0, 0, 1, 1, 1, 1, 1,
            0, 0, 0, 0, 0, 0, 0, 1, 1, 1,
            1, 0, 1, 0, 0, 1, 1, 1, 0, 0,
            1, 1, 0, 0, 1, 1, 0, 0, 1, 1,
            0, 0, 1, 1, 0, 0, 1, 1, 0, 0,
            1, 1, 1, 1, 1, 1, 1, 1, 1, 1,
            1, 1, 3, 1, 0, 0, 1, 0, 0, 0,
            0, 0, 0, 0, 0, 1, 1, 1, 1, 0,
            0, 0, 0, 3, 3, 3, 3, 3, 3, 3,
            3, 3, 3, 3, 3, 3, 3, 3, 0, 0,
            0, 0, 1, 1, 0, 0, 1, 1, 3, 3,
            0, 0, 0, 0, 3, 0, 0, 0, 2, 0,
            1, 1, 0, 0, 0, 0, 0, 0, 3, 3,
            5
        };

        // 0 if what begins there is no instruction; one that is cut off is longer than what is left.
        static int lengthAt(Bytes bytes, int p, int start) {
            int number = bytes.u1(p);
            switch (number) {
                case TABLE:
                    return tableLength(bytes, p, start);
                case LOOKUP:
                    return lookupLength(bytes, p, start);
                case WIDE:
                    return wideLength(bytes.u1(p + 1));
                case NEW:
                    return bytes.u1(p + 1) == 10 ? 2 : 0;
                default:
                    return number < LENGTHS.length ? LENGTHS[number] : 0;
            }
        }

        private static int wideLength(int number) {
            switch (number) {
                case 21:
                case 22:
                case 25:
                case 54:
                case 55:
                case 58:
                    return 4;
                case GROW:
                    return 6;
                default:
                    return 0;
            }
        }

        private static int tableLength(Bytes bytes, int p, int start) {
            int head = switchHead(p, start);
            long most = (long) bytes.s4(head + 8) - bytes.s4(head + 4);
            if (most < 0 || most > MOST_TARGETS) {
                return 0;
            }
            return head + 12 + 4 * ((int) most + 1) - p;
        }

        private static int lookupLength(Bytes bytes, int p, int start) {
            int head = switchHead(p, start);
            int count = bytes.s4(head + 4);
            if (count < 0 || count > MOST_TARGETS) {
                return 0;
            }
            for (int i = 1; i < count; i++) {
                int pair = head + 8 + 8 * i;
                if (bytes.s4(pair - 8) >= bytes.s4(pair)) {
                    return 0;
                }
            }
            return head + 8 + 8 * count - p;
        }

        // Where the default of a switch stands.
        private static int switchHead(int p, int start) {
            int behind = p + 1 - start;
            return p + 1 + (-behind & 3);
        }

        static int targetCount(Bytes bytes, int p, int start) {
            int head = switchHead(p, start);
            switch (bytes.u1(p)) {
                case TABLE:
                    return bytes.s4(head + 8) - bytes.s4(head + 4) + 2;
                case LOOKUP:
                    return bytes.s4(head + 4) + 1;
                default:
                    return 0;
            }
        }

        static int targetPlace(Bytes bytes, int p, int start, int k) {
            int head = switchHead(p, start);
            if (k == 0) {
                return p + bytes.s4(head);
            }
            return p + bytes.s4(bytes.u1(p) == TABLE ? head + 8 + 4 * k : head + 4 + 8 * k);
        }

        static int jumpPlace(Bytes bytes, int p) {
            return p + (bytes.u1(p) == FAR_GOTO ? bytes.s4(p + 1) : bytes.s2(p + 1));
        }

        static int kindAt(Bytes bytes, int p) {
            int number = bytes.u1(p) == WIDE ? bytes.u1(p + 1) : bytes.u1(p);
            if (number >= 2 && number <= 8 || number >= 16 && number <= FAR_INT_OF_POOL) {
                return PUSH_INT;
            }
            if (number == 9 || number == 10 || number == LONG_OF_POOL) {
                return PUSH_LONG;
            }
            if (number >= 26 && number <= 45) {
                return 21 + (number - 26) / 4;
            }
            if (number >= 59 && number <= 78) {
                return 54 + (number - 59) / 4;
            }
            return number == FAR_GOTO ? GOTO : number;
        }

        static int localAt(Bytes bytes, int p) {
            int number = bytes.u1(p);
            if (number == WIDE) {
                return bytes.u2(p + 2);
            }
            if (number >= 26 && number <= 45) {
                return (number - 26) % 4;
            }
            if (number >= 59 && number <= 78) {
                return (number - 59) % 4;
            }
            return bytes.u1(p + 1);
        }

        // The entry of the pool that the instruction tells, 0 if it tells none.
        static int entryAt(Bytes bytes, int p) {
            switch (bytes.u1(p)) {
                case INT_OF_POOL:
                    return bytes.u1(p + 1);
                case FAR_INT_OF_POOL:
                case LONG_OF_POOL:
                case GET:
                case PUT:
                case CALL:
                    return bytes.u2(p + 1);
                default:
                    return 0;
            }
        }

        static boolean isLocal(int kind) {
            return kind == 21 || kind == 25 || kind == 54 || kind == 58 || kind == GROW || isLongLocal(kind);
        }

        static boolean isLongLocal(int kind) {
            return kind == 22 || kind == 55;
        }

        static boolean isJump(int kind) {
            return kind >= 153 && kind <= GOTO || kind == 198 || kind == 199;
        }

        static boolean isSwitch(int kind) {
            return kind == TABLE || kind == LOOKUP;
        }

        static boolean isField(int kind) {
            return kind == GET || kind == PUT;
        }
    }

    /** Rules 15 and 16, and what instructions point to. */
    private static final class Links {
        static int wrongInstruction(Image file) {
            int rows = 0;
            for (int m = 0; m < file.methodCount; m++) {
                Body body = file.bodyOf(m);
                if (body == null) {
                    return at(file.methods, m);
                }
                body.firstRow = rows;
                int wrong = cutIntoRows(file, body);
                if (wrong != NONE) {
                    return wrong;
                }
                rows += body.rowCount;
            }
            return NONE;
        }

        private static int cutIntoRows(Image file, Body body) {
            int end = body.start + body.length;
            int p = body.start;
            body.rowCount = 0;
            while (p < end) {
                int length = Instructions.lengthAt(file.bytes, p, body.start);
                if (length < 1 || length > end - p) {
                    return p;
                }
                put(file.instructions, body.firstRow + body.rowCount, p);
                body.rowCount++;
                p += length;
            }
            return NONE;
        }

        static int wrongLink(Image file) {
            findMembers(file);
            for (int m = 0; m < file.methodCount; m++) {
                Body body = file.bodyOf(m);
                if (body == null) {
                    return at(file.methods, m);
                }
                int wrong = wrongInstructionLink(file, body);
                if (wrong == NONE) {
                    wrong = wrongCatch(file, body);
                }
                if (wrong != NONE) {
                    return wrong;
                }
            }
            return NONE;
        }

        private static void findMembers(Image file) {
            Pool pool = file.pool;
            int thisName = pool.part(file.bytes.u2(file.classPlace + 2), 0);
            for (int k = 1; k < pool.count; k++) {
                int found = NONE;
                if (pool.is(FIELD, k)) {
                    found = findMember(file, thisName, k, file.fields, file.fieldCount);
                } else if (pool.is(METHOD, k)) {
                    found = findMember(file, thisName, k, file.methods, file.methodCount);
                }
                put(pool.members, k, found);
            }
        }

        private static int findMember(Image file, int thisName, int k, int[] members, int count) {
            Pool pool = file.pool;
            if (!pool.same(pool.part(pool.part(k, 0), 0), thisName)) {
                return NONE;
            }
            int name = pool.part(pool.part(k, 1), 0);
            int type = pool.part(pool.part(k, 1), 1);
            for (int i = 0; i < count; i++) {
                int member = at(members, i);
                if (pool.same(file.nameOf(member), name) && pool.same(file.typeOf(member), type)) {
                    return i;
                }
            }
            return NONE;
        }

        private static int wrongInstructionLink(Image file, Body body) {
            for (int i = 0; i < body.rowCount; i++) {
                int p = at(file.instructions, body.firstRow + i);
                if (!pointsWell(file, body, p)) {
                    return p;
                }
            }
            return NONE;
        }

        private static boolean pointsWell(Image file, Body body, int p) {
            int kind = Instructions.kindAt(file.bytes, p);
            int entry = Instructions.entryAt(file.bytes, p);
            if (Instructions.isLocal(kind)) {
                int lastPlace = Instructions.localAt(file.bytes, p) + (Instructions.isLongLocal(kind) ? 1 : 0);
                return lastPlace < body.locals;
            }
            if (Instructions.isJump(kind)) {
                return file.numberAt(body, Instructions.jumpPlace(file.bytes, p)) != NONE;
            }
            if (Instructions.isSwitch(kind)) {
                return targetsPointWell(file, body, p);
            }
            if (Instructions.isField(kind)) {
                return file.pool.is(FIELD, entry) && at(file.pool.members, entry) != NONE;
            }
            switch (file.bytes.u1(p)) {
                case Instructions.CALL:
                    return file.pool.is(METHOD, entry) && at(file.pool.members, entry) != NONE;
                case Instructions.INT_OF_POOL:
                case Instructions.FAR_INT_OF_POOL:
                    return file.pool.is(INT, entry);
                case Instructions.LONG_OF_POOL:
                    return file.pool.is(LONG, entry);
                default:
                    return true;
            }
        }

        private static boolean targetsPointWell(Image file, Body body, int p) {
            int count = Instructions.targetCount(file.bytes, p, body.start);
            for (int k = 0; k < count; k++) {
                if (file.numberAt(body, Instructions.targetPlace(file.bytes, p, body.start, k)) == NONE) {
                    return false;
                }
            }
            return true;
        }

        private static int wrongCatch(Image file, Body body) {
            for (int i = 0; i < body.catchCount; i++) {
                int p = body.catches + i * CATCH_LENGTH;
                if (!catchPointsWell(file, body, p)) {
                    return p;
                }
            }
            return NONE;
        }

        private static boolean catchPointsWell(Image file, Body body, int p) {
            int from = file.bytes.u2(p);
            int to = file.bytes.u2(p + 2);
            int handler = file.bytes.u2(p + 4);
            if (from >= to || file.numberAt(body, body.start + from) == NONE) {
                return false;
            }
            if (to != body.length && file.numberAt(body, body.start + to) == NONE) {
                return false;
            }
            return file.numberAt(body, body.start + handler) != NONE
                && isError(file.pool, file.bytes.u2(p + 6));
        }

        private static boolean isError(Pool pool, int caught) {
            if (caught == 0) {
                return true;
            }
            if (!pool.is(CLASS, caught)) {
                return false;
            }
            int name = pool.part(caught, 0);
            return pool.says(name, "DivideError") || pool.says(name, "NullError")
                || pool.says(name, "IndexError") || pool.says(name, "SizeError");
        }

        static int firstNumber(Image file, Body body, int p) {
            int kind = Instructions.kindAt(file.bytes, p);
            if (kind == Instructions.PUSH_INT) {
                return pushedInt(file, p);
            }
            if (kind == Instructions.PUSH_LONG) {
                return pushedLongLow(file, p);
            }
            if (Instructions.isLocal(kind)) {
                return Instructions.localAt(file.bytes, p);
            }
            if (Instructions.isJump(kind)) {
                return file.numberAt(body, Instructions.jumpPlace(file.bytes, p));
            }
            if (Instructions.isSwitch(kind)) {
                return file.numberAt(body, Instructions.targetPlace(file.bytes, p, body.start, 0));
            }
            if (Instructions.isField(kind) || kind == Instructions.CALL) {
                return at(file.pool.members, Instructions.entryAt(file.bytes, p));
            }
            return 0;
        }

        private static int pushedInt(Image file, int p) {
            int number = file.bytes.u1(p);
            switch (number) {
                case 16:
                    return file.bytes.s1(p + 1);
                case 17:
                    return file.bytes.s2(p + 1);
                case Instructions.INT_OF_POOL:
                case Instructions.FAR_INT_OF_POOL:
                    return file.bytes.s4(at(file.pool.places, Instructions.entryAt(file.bytes, p)) + 1);
                default:
                    return number - 3;
            }
        }

        private static int pushedLongLow(Image file, int p) {
            int number = file.bytes.u1(p);
            if (number == Instructions.LONG_OF_POOL) {
                return file.bytes.s4(at(file.pool.places, Instructions.entryAt(file.bytes, p)) + 5);
            }
            return number - 9;
        }
    }
}
