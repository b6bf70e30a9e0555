import java.util.Arrays;
import java.util.function.Consumer;

/** Rules 1 to 12 and 17: a test for each sentence that names an edge, on both sides of it. */
public final class FileEdgesTest {
    private static final Check CHECK = new Check();

    public static void main(String[] args) {
        theFirstEightBytes();
        aFileShorterThanItsHead();
        itemsToTheFilesEnd();
        attributesToTheFilesEnd();
        lengthsHaveNoSign();
        tagsBesideTheToldOnes();
        theNumberBehindALong();
        lengthsOfNames();
        lettersOfNames();
        namesCutByTheFilesEnd();
        sizeOfThePool();
        countsOfFieldsAndMethods();
        theFirstPlaceOfRulesOneToFive();
        entriesOfCLASS();
        entriesOfPAIR();
        entriesOfFIELDAndMETHOD();
        numbersAboveOneByte();
        flagsOfTheClass();
        flagsOfMembers();
        theClassAndTheOneAbove();
        theU2BehindThem();
        namesAndTypesOfMembers();
        namesOfAttributes();
        typesOfFields();
        typesOfMethods();
        placesOfParameters();
        typesInPAIRs();
        namesThatAreTheSame();
        justOneCode();
        nothingBehindTheFile();
        theLowestRuleIsTold();
        CHECK.finish();
    }

    private static ClassFile sample() {
        ClassFile file = new ClassFile();
        int other = file.name("Other");
        byte[] attribute = ClassFile.attribute(other, ClassFile.row(4));
        file.field(file.name("x"), file.name("I"), attribute, attribute).field("y", "[I");
        byte[] code = ClassFile.attribute(file.codeName, ClassFile.body(1, 1, ClassFile.row(177)));
        file.methodWith(file.name("a"), file.name("()V"), code, attribute);
        file.methodWith(file.name("b"), file.name("(I)V"), code);
        return file.fileAttributes(attribute, attribute);
    }

    private static void edge(String what, byte[] file, boolean well, int rule, int place) {
        CHECK.broken(what, file, well ? 0 : rule, well ? -1 : place);
    }

    /** The U2 at the place p with all values: the first of them are well, the others break the rule there. */
    private static void u2(String what, byte[] file, int p, int rule, int[] well, int[] wrong) {
        for (int value : well) {
            CHECK.whole(what + " " + value, Trays.with(file, p, value >> 8, value));
        }
        for (int value : wrong) {
            CHECK.broken(what + " " + value, Trays.with(file, p, value >> 8, value), rule, p);
        }
    }

    // Rule 1: the first 8 bytes are as told (at the first that is not).

    private static void theFirstEightBytes() {
        byte[] file = sample().toBytes();
        CHECK.whole("the head", file);
        for (int p = 0; p < 8; p++) {
            for (int step : new int[] {-1, 1, 128}) {
                CHECK.broken("byte " + p + " by " + step, Trays.with(file, p, file[p] + step), 1, p);
            }
            byte[] rest = file.clone();
            Arrays.fill(rest, p, 8, (byte) 77);
            CHECK.broken("byte " + p + " to 7", rest, 1, p);
        }
        CHECK.broken("byte 8 is no more of them", Trays.with(file, 8, 255), 5, 8);
    }

    private static void aFileShorterThanItsHead() {
        byte[] file = sample().toBytes();
        for (int length = 0; length <= 9; length++) {
            byte[] cut = Trays.cut(file, length);
            CHECK.broken("the first " + length, cut, 2, length);
            if (length > 0 && length <= 8) {
                CHECK.broken("the last of " + length, Trays.with(cut, length - 1, 99), 1, length - 1);
                CHECK.broken("the first of " + length, Trays.with(cut, 0, 99), 1, 0);
            }
        }
    }

    // Rule 2: no item goes beyond the file (at the file's end).

    private static void itemsToTheFilesEnd() {
        byte[] file = sample().toBytes();
        for (int length = 0; length <= file.length; length++) {
            edge("the first " + length, Trays.cut(file, length), length == file.length, 2, length);
        }
    }

    private static void attributesToTheFilesEnd() {
        for (int length = 0; length <= 3; length++) {
            ClassFile file = new ClassFile();
            file.fileAttributes(ClassFile.attribute(file.name("Other"), new byte[length]));
            byte[] bytes = file.toBytes();
            int last = file.attributesPlace() + 7;
            CHECK.whole("an attribute of " + length, bytes);
            CHECK.broken("it says one more", Trays.with(bytes, last, length + 1), 2, bytes.length);
            CHECK.broken("one attribute more", Trays.with(bytes, file.attributesPlace() + 1, 2), 2, bytes.length);
            if (length > 0) {
                CHECK.broken("it says one less", Trays.with(bytes, last, length - 1), 17, bytes.length - 1);
            }
        }
        ClassFile half = new ClassFile();
        half.fileAttributes(ClassFile.row(0, half.codeName, 0, 0, 0));
        CHECK.broken("a length of three bytes", half.toBytes(), 2, half.toBytes().length);
    }

    private static void lengthsHaveNoSign() {
        ClassFile sample = sample();
        byte[] file = sample.toBytes();
        int[] counts = {sample.fieldPlace(0) + 6, sample.methodPlace(0) + 6, sample.methodPlace(1) + 6, sample.attributesPlace()};
        int[] lengths = {16000, 65536, Integer.MAX_VALUE, Integer.MIN_VALUE, Integer.MIN_VALUE + 1, -6, -1};
        for (int p : counts) {
            for (int length : lengths) {
                byte[] wrong = Trays.with(file, p + 4, length >> 24, length >> 16, length >> 8, length);
                CHECK.broken("an attribute's length " + length, wrong, 2, file.length);
            }
            for (int count : new int[] {32767, 32768, 65535}) {
                byte[] wrong = Trays.with(file, p, count >> 8, count);
                CHECK.due("so many attributes: " + count, Trays.of(wrong).size(0), -1);
                CHECK.broken("so many attributes: " + count, Trays.with(Trays.cut(file, p + 2), p, count >> 8, count), 2, p + 2);
            }
        }
    }

    // Rule 3: a tag is one of those (at it). The number behind a long is no entry.

    private static void tagsBesideTheToldOnes() {
        ClassFile file = new ClassFile(before -> before.name("first"));
        int last = file.name("last");
        byte[] bytes = file.toBytes();
        for (int entry : new int[] {1, last}) {
            for (int tag : new int[] {0, 2, 4, 6, 8, 11, 13, 129, 255}) {
                CHECK.broken("tag " + tag + " of " + entry, Trays.with(bytes, file.tagPlace(entry), tag), 3, file.tagPlace(entry));
            }
            CHECK.whole("tag 1 of " + entry, Trays.with(bytes, file.tagPlace(entry), 1));
        }
        ClassFile all = new ClassFile();
        all.intOf(-1);
        all.longOf(-1);
        all.fieldOf("x", "I");
        all.methodOf("a", "()V");
        CHECK.whole("the tags 1, 3, 5, 7, 9, 10 and 12", all.toBytes());
    }

    private static void theNumberBehindALong() {
        for (int fill = 497; fill <= 499; fill++) {
            ClassFile file = new ClassFile();
            int far = file.longOf(1);
            while (file.entries() < fill) {
                file.intOf(1);
            }
            CHECK.whole("a long counts two of " + fill, file.toBytes());
            CHECK.due("size(2)", Trays.of(file.toBytes()).size(2), fill);
            CHECK.broken("n is one more", Trays.with(file.toBytes(), 8, fill + 1 >> 8, fill + 1), 3, file.classPlace());
            ClassFile link = new ClassFile();
            link.longOf(1);
            int k = link.classAt(far + 1);
            CHECK.broken("a CLASS that points behind a long", link.toBytes(), 6, link.tagPlace(k));
        }
    }

    // Rule 4: a NAME has 1 .. 100 bytes, all 33 .. 126 (at its tag).

    private static void lengthsOfNames() {
        for (int length : new int[] {1, 2, 99, 100, 101, 102, 256, 257, 500}) {
            ClassFile file = new ClassFile();
            int name = file.name("x".repeat(length));
            edge("a NAME of " + length, file.toBytes(), length <= 100, 4, file.tagPlace(name));
        }
        ClassFile none = new ClassFile();
        int name = none.name("");
        CHECK.broken("a NAME of no byte", none.toBytes(), 4, none.tagPlace(name));
        CHECK.broken("a NAME of no byte at the end", Trays.cut(none.toBytes(), none.tagPlace(name) + 3), 4, none.tagPlace(name));
        CHECK.broken("a NAME of 65535 at the end", Trays.with(Trays.cut(none.toBytes(), none.tagPlace(name) + 3),
            none.tagPlace(name) + 1, 255, 255), 4, none.tagPlace(name));
        CHECK.broken("a NAME of 32768 at the end", Trays.with(Trays.cut(none.toBytes(), none.tagPlace(name) + 3),
            none.tagPlace(name) + 1, 128, 0), 4, none.tagPlace(name));
    }

    private static void lettersOfNames() {
        for (int letter : new int[] {0, 1, 10, 32, 33, 34, 125, 126, 127, 128, 161, 254, 255}) {
            String one = "" + (char) letter;
            for (String text : new String[] {one, one + "xx", "x" + one + "x", "xx" + one, "x".repeat(99) + one}) {
                ClassFile file = new ClassFile();
                int name = file.name(text);
                edge("letter " + letter, file.toBytes(), letter >= 33 && letter <= 126, 4, file.tagPlace(name));
            }
        }
    }

    private static void namesCutByTheFilesEnd() {
        ClassFile file = new ClassFile();
        int tag = file.tagPlace(file.name("x".repeat(100)));
        for (int letters : new int[] {0, 1, 99}) {
            CHECK.broken(letters + " of 100 letters", Trays.cut(file.toBytes(), tag + 3 + letters), 2, tag + 3 + letters);
        }
        for (int length = tag + 1; length < tag + 3; length++) {
            CHECK.broken("a NAME without all of its U2", Trays.cut(file.toBytes(), length), 2, length);
        }
    }

    // Rule 5: n is 1 .. 500; at most 24 fields, 24 methods (at the U2).

    private static void sizeOfThePool() {
        for (int n : new int[] {499, 500, 501, 502}) {
            ClassFile file = new ClassFile();
            while (file.entries() < n) {
                file.intOf(n);
            }
            edge("n is " + n, file.toBytes(), n <= 500, 5, 8);
        }
        byte[] bare = new ClassFile.Row().u1(202, 254, 186, 190, 0, 0, 0, 49).u2(1)
            .u2(33).u2(1).u2(1).u2(0).u2(0).u2(0).u2(0).toBytes();
        CHECK.broken("n is 1: no entry, so no class", bare, 8, 12);
        for (int n : new int[] {0, 501, 32768, 65535}) {
            CHECK.broken("n is " + n, Trays.with(bare, 8, n >> 8, n), 5, 8);
            CHECK.broken("n is " + n + " at the end", Trays.with(Trays.cut(bare, 10), 8, n >> 8, n), 5, 8);
        }
        CHECK.broken("n is 1 at the end", Trays.cut(bare, 10), 2, 10);
        ClassFile far = new ClassFile();
        while (far.entries() < 499) {
            far.intOf(1);
        }
        far.longOf(1);
        CHECK.whole("a long as entry 499 of n 500", Trays.with(far.toBytes(), 8, 1, 244));
    }

    private static void countsOfFieldsAndMethods() {
        for (int count : new int[] {0, 1, 23, 24, 25, 26}) {
            ClassFile fields = new ClassFile();
            ClassFile methods = new ClassFile();
            for (int i = 0; i < count; i++) {
                fields.field("f" + i, "I");
                methods.method("m" + i, "()V", 0, 0, 177);
            }
            edge(count + " fields", fields.toBytes(), count <= 24, 5, fields.fieldsPlace());
            edge(count + " methods", methods.toBytes(), count <= 24, 5, methods.methodsPlace());
        }
        ClassFile none = new ClassFile();
        for (int count : new int[] {25, 256, 32768, 65535}) {
            for (int p : new int[] {none.fieldsPlace(), none.methodsPlace()}) {
                CHECK.broken("a count of " + count, Trays.with(none.toBytes(), p, count >> 8, count), 5, p);
                CHECK.broken("it at the end", Trays.with(Trays.cut(none.toBytes(), p + 2), p, count >> 8, count), 5, p);
            }
        }
        for (int p : new int[] {none.fieldsPlace(), none.methodsPlace()}) {
            CHECK.broken("24 at the end", Trays.with(Trays.cut(none.toBytes(), p + 2), p, 0, 24), 2, p + 2);
            CHECK.broken("half a count", Trays.with(Trays.cut(none.toBytes(), p + 1), p, 9), 2, p + 1);
        }
        ClassFile both = new ClassFile();
        for (int i = 0; i < 24; i++) {
            both.field("f" + i, "J").method("m" + i, "()V", 0, 0, 177);
        }
        CHECK.whole("24 fields and 24 methods", both.toBytes());
    }

    // Rules 1 to 5 are looked at together, from the left: the first place that breaks one is told.

    private static void theFirstPlaceOfRulesOneToFive() {
        ClassFile sample = sample();
        int[][] faults = {{1, 7, 0}, {5, 8, 0}, {4, sample.tagPlace(1), 2}, {3, sample.tagPlace(2), 0},
            {4, sample.tagPlace(3), 3}, {5, sample.fieldsPlace(), 0}, {5, sample.methodsPlace(), 1}};
        byte[] file = Trays.cut(sample.toBytes(), sample.toBytes().length - 1);
        CHECK.broken("the file's end", file, 2, file.length);
        for (int i = faults.length - 1; i >= 0; i--) {
            file = Trays.with(file, faults[i][1] + faults[i][2], 127);
            CHECK.broken("fault " + i + " and those behind it", file, faults[i][0], faults[i][1]);
        }
    }

    // Rule 6: pool entries point to entries of their sort (at the tag).

    private static final int X = 2;
    private static final int INT_TYPE = 3;
    private static final int METHOD_TYPE = 4;
    private static final int OWNER = 5;
    private static final int FIELDS_PAIR = 6;
    private static final int METHODS_PAIR = 7;
    private static final int FAR = 8;

    private interface Pointer {
        int put(ClassFile file, int to);
    }

    /** A file with the target as entry 1 and the entries above; behind it the one that points, and a target again. */
    private static final class Pointed {
        final ClassFile file;
        final int entry;

        Pointed(Consumer<ClassFile> target, Pointer pointer, int to) {
            file = new ClassFile(before -> {
                target.accept(before);
                before.name("x");
                before.name("I");
                before.name("()V");
                before.classAt(X);
                before.pairAt(X, INT_TYPE);
                before.pairAt(X, METHOD_TYPE);
                before.longOf(1);
            });
            entry = pointer.put(file, to);
            target.accept(file);
        }
    }

    private static void pointer(String what, Consumer<ClassFile> target, Pointer pointer) {
        int own = new Pointed(target, pointer, 1).entry;
        int n = own + 2;
        for (int to : new int[] {1, n - 1}) {
            Pointed well = new Pointed(target, pointer, to);
            CHECK.due("n", well.file.entries(), n);
            CHECK.whole(what + " points to " + to, well.file.toBytes());
        }
        for (int to : new int[] {0, n, n + 1, own, FAR, FAR + 1, 256, 257, 500, 32768, 65535}) {
            Pointed wrong = new Pointed(target, pointer, to);
            CHECK.broken(what + " points to " + to, wrong.file.toBytes(), 6, wrong.file.tagPlace(wrong.entry));
        }
    }

    private static void entriesOfCLASS() {
        pointer("CLASS", file -> file.name("I"), (file, to) -> file.classAt(to));
    }

    private static void entriesOfPAIR() {
        pointer("PAIR's first", file -> file.name("I"), (file, to) -> file.pairAt(to, INT_TYPE));
        pointer("PAIR's second", file -> file.name("I"), (file, to) -> file.pairAt(X, to));
    }

    private static void entriesOfFIELDAndMETHOD() {
        pointer("FIELD's first", file -> file.classAt(X), (file, to) -> file.fieldAt(to, FIELDS_PAIR));
        pointer("FIELD's second", file -> file.pairAt(X, INT_TYPE), (file, to) -> file.fieldAt(OWNER, to));
        pointer("METHOD's first", file -> file.classAt(X), (file, to) -> file.methodAt(to, METHODS_PAIR));
        pointer("METHOD's second", file -> file.pairAt(X, METHOD_TYPE), (file, to) -> file.methodAt(OWNER, to));
    }

    private static void numbersAboveOneByte() {
        ClassFile file = new ClassFile(before -> {
            while (before.entries() < 256) {
                before.intOf(1);
            }
        });
        int x = file.fieldOf("x", "I");
        int a = file.methodOf("a", "()V");
        int error = file.classOf("SizeError");
        int far = file.longOf(5);
        file.field("x", "I");
        file.method("a", "()V", ClassFile.body(1, 1, ClassFile.row(178, x >> 8, x, 179, x >> 8, x, 184, a >> 8, a,
            20, far >> 8, far, 177), new int[] {0, 13, 0, error}));
        CHECK.whole("all numbers are above 255", file.toBytes());
        CHECK.broken("the class without its high byte", Trays.with(file.toBytes(), file.classPlace() + 2, 0), 8, file.classPlace() + 2);
    }

    // Rule 7: flags are as told (at the U2).

    private static void flagsOfTheClass() {
        ClassFile sample = sample();
        u2("the class's flags", sample.toBytes(), sample.classPlace(), 7, new int[] {33}, new int[] {0, 1, 9, 32, 34, 33 + 256, 65535});
    }

    private static void flagsOfMembers() {
        ClassFile sample = sample();
        for (int p : new int[] {sample.fieldPlace(0), sample.fieldPlace(1), sample.methodPlace(0), sample.methodPlace(1)}) {
            u2("flags at " + p, sample.toBytes(), p, 7, new int[] {9}, new int[] {0, 1, 8, 10, 33, 9 + 256, 65535});
        }
    }

    // Rule 8: its class and the class above are CLASSes, the U2 behind them is 0 (at the U2).

    private static void theClassAndTheOneAbove() {
        ClassFile file = new ClassFile(before -> {
            before.classAt(2);
            before.name("One");
        });
        int far = file.longOf(1);
        int pair = file.pairOf("x", "I");
        int last = file.classOf("Last");
        int n = file.entries();
        int[] well = {1, file.codeName - 1, last};
        int[] wrong = {0, 2, far, far + 1, pair, last - 1, n, n + 1, 256, 500, 32768, 65535};
        u2("its class", file.toBytes(), file.classPlace() + 2, 8, well, wrong);
        u2("the class above", file.toBytes(), file.classPlace() + 4, 8, well, wrong);
    }

    private static void theU2BehindThem() {
        ClassFile sample = sample();
        u2("the U2 behind the classes", sample.toBytes(), sample.classPlace() + 6, 8, new int[] {0}, new int[] {1, 255, 256, 65535});
    }

    // Rule 9: names and types of fields and methods, and names of their and the file's attributes, are NAMEs.

    private static void namesAndTypesOfMembers() {
        for (String type : new String[] {"I", "()V"}) {
            ClassFile file = new ClassFile(before -> before.name(type));
            int x = file.name("x");
            int far = file.longOf(1);
            int pair = file.pairAt(x, 1);
            int typeName = file.name(type);
            byte[] code = ClassFile.attribute(file.codeName, ClassFile.body(0, 0, ClassFile.row(177)));
            int p = type.equals("I") ? file.field(x, typeName).fieldPlace(0) : file.methodWith(x, typeName, code).methodPlace(0);
            int n = file.entries();
            int[] wrong = {0, 3, far, far + 1, pair, n, n + 1, 256, 32768, 65535};
            u2("a name", file.toBytes(), p + 2, 9, new int[] {1, x, n - 1}, wrong);
            u2("a type", file.toBytes(), p + 4, 9, new int[] {1, n - 1}, wrong);
        }
    }

    private static void namesOfAttributes() {
        ClassFile file = new ClassFile(before -> before.name("Other"));
        int far = file.longOf(1);
        int pair = file.pairOf("x", "I");
        byte[] attribute = ClassFile.attribute(file.codeName, ClassFile.row());
        byte[] other = ClassFile.attribute(1, ClassFile.row(5));
        file.field(file.name("x"), file.name("I"), other, attribute);
        byte[] code = ClassFile.attribute(file.codeName, ClassFile.body(0, 0, ClassFile.row(177)));
        file.methodWith(file.name("a"), file.name("()V"), code, other, other);
        file.fileAttributes(other, attribute);
        int last = file.name("Last");
        int[] wrong = {0, 3, far, far + 1, pair, last + 1, 256, 32768, 65535};
        int[] places = {file.fieldPlace(0) + 8, file.fieldPlace(0) + 15, file.methodsPlace() - 6, file.attributesPlace() - 7,
            file.attributesPlace() - 14, file.attributesPlace() + 2, file.attributesPlace() + 9};
        for (int p : places) {
            u2("an attribute's name at " + p, file.toBytes(), p, 9, new int[] {1, last}, wrong);
        }
    }

    // Rule 10: types of fields and methods are types, parameters at most 8 places (at the U2).

    private static void typesOfFields() {
        for (String type : new String[] {"I", "J", "[I", "II", "JI", "[", "[[I", "[J", "[I[I", "V", "()I", "H", "K"}) {
            ClassFile file = new ClassFile().field("x", "J").field("y", type);
            edge("a field's " + type, file.toBytes(), type.equals("I") || type.equals("J") || type.equals("[I"),
                10, file.fieldPlace(1) + 4);
        }
    }

    private static void typesOfMethods() {
        for (String type : new String[] {"()V", "()I", "()J", "()[I", "(I)V", "([I)V", "(J)V", "(IJ[I)[I"}) {
            CHECK.whole("a method's " + type, new ClassFile().method("a", type, 0, 24, 177).toBytes());
        }
        for (String type : new String[] {"(", ")", "()", "(I", "(I)", "(V)V", "()VV", "()II", "()[", "()[[I", "([)V", "(I[)V",
            "()(V", "I", "V", "x()V", "()V)", "(I", "((I))V", "(J)[J"}) {
            ClassFile file = new ClassFile().method("b", "()V", 0, 24, 177).method("a", type, 0, 24, 177);
            CHECK.broken("a method's " + type, file.toBytes(), 10, file.methodPlace(1) + 4);
        }
    }

    private static void placesOfParameters() {
        String[] eight = {"IIIIIIII", "JJJJ", "JJJII", "IJIJII", "[I[I[I[I[I[I[I[I", "IIIIIIJ", "[IJJJI"};
        for (String parameters : eight) {
            CHECK.whole("8 places of " + parameters, new ClassFile().method("a", "(" + parameters + ")J", 0, 24, 177).toBytes());
            for (String more : new String[] {"I", "[I", "J"}) {
                ClassFile behind = new ClassFile().method("a", "(" + parameters + more + ")J", 0, 24, 177);
                CHECK.broken("and " + more + " behind", behind.toBytes(), 10, behind.methodPlace(0) + 4);
                ClassFile before = new ClassFile().method("a", "(" + more + parameters + ")J", 0, 24, 177);
                CHECK.broken("and " + more + " before", before.toBytes(), 10, before.methodPlace(0) + 4);
            }
        }
        ClassFile seven = new ClassFile().method("a", "(IIIIIIIJ)V", 0, 24, 177);
        CHECK.broken("a long from the eighth place on", seven.toBytes(), 10, seven.methodPlace(0) + 4);
        ClassFile longest = new ClassFile().method("a", "(" + "I".repeat(97) + ")V", 0, 24, 177);
        CHECK.broken("97 parameters", longest.toBytes(), 10, longest.methodPlace(0) + 4);
    }

    // And in PAIRs: of a FIELD a type, of a METHOD a method's (at the FIELD's or METHOD's tag).

    private static void typesInPAIRs() {
        for (String type : new String[] {"I", "[I", "()V", "(I)J", "V", "[", "()", "(V)V"}) {
            ClassFile alone = new ClassFile();
            alone.pairOf("x", type);
            CHECK.whole("a PAIR that no other entry has", alone.toBytes());
            ClassFile field = new ClassFile();
            int k = field.fieldOf("x", type);
            edge("a FIELD's " + type, field.toBytes(), type.equals("I") || type.equals("[I"), 10, field.tagPlace(k));
            ClassFile method = new ClassFile();
            k = method.methodOf("x", type);
            edge("a METHOD's " + type, method.toBytes(), type.equals("()V") || type.equals("(I)J"), 10, method.tagPlace(k));
        }
        ClassFile order = new ClassFile().field("x", "V");
        int k = order.methodOf("x", "V");
        CHECK.broken("an entry's tag stands before a field", order.toBytes(), 10, order.tagPlace(k));
    }

    // Rule 11: no two fields, no two methods have the same name (at the later one's name).

    private static void namesThatAreTheSame() {
        String longest = "x".repeat(99);
        String[][] names = {{"x", "y"}, {"x", "xx"}, {"x", "x"}, {longest + "a", longest + "b"}, {"a" + longest, "b" + longest},
            {longest + "a", longest + "a"}, {longest, longest + "x"}, {"X", "x"}, {"~", "!"}, {"!", "!"}};
        for (String[] two : names) {
            boolean well = !two[0].equals(two[1]);
            ClassFile fields = new ClassFile().field(two[0], "I").field("between", "I").field(two[1], "J");
            edge("fields " + two[0] + " " + two[1], fields.toBytes(), well, 11, fields.fieldPlace(2) + 2);
            ClassFile methods = new ClassFile().method(two[0], "()V", 0, 0, 177).method("between", "()V", 0, 0, 177)
                .method(two[1], "()J", 0, 0, 177);
            edge("methods " + two[0] + " " + two[1], methods.toBytes(), well, 11, methods.methodPlace(2) + 2);
            CHECK.whole("a field and a method", new ClassFile().field(two[0], "I").method(two[1], "()V", 0, 0, 177).toBytes());
        }
        ClassFile all = new ClassFile();
        for (int i = 0; i < 23; i++) {
            all.field("f" + i, "I");
        }
        all.field("f0", "I");
        CHECK.broken("the first and the last of 24", all.toBytes(), 11, all.fieldPlace(23) + 2);
        ClassFile crossed = new ClassFile().field("x", "I").field("y", "I").field("y", "I").field("x", "I");
        CHECK.broken("the first later one", crossed.toBytes(), 11, crossed.fieldPlace(2) + 2);
    }

    // Rule 12: a method has just one attribute Code (at its flags).

    private static void justOneCode() {
        for (String name : new String[] {"Code", "Cod", "Codes", "code", "CodE"}) {
            for (int codes = 0; codes <= 3; codes++) {
                ClassFile file = new ClassFile().method("first", "()V", 0, 0, 177);
                byte[] body = ClassFile.body(0, 0, ClassFile.row(177));
                byte[] code = ClassFile.attribute(file.name("Code"), body);
                byte[] other = ClassFile.attribute(file.name(name), body);
                byte[][] rows = new byte[codes + 1][];
                Arrays.fill(rows, code);
                rows[codes / 2] = other;
                file.methodWith(file.name("a"), file.name("()V"), rows);
                int count = name.equals("Code") ? codes + 1 : codes;
                edge(count + " Codes beside " + name, file.toBytes(), count == 1, 12, file.methodPlace(1));
            }
        }
        ClassFile field = new ClassFile();
        byte[] code = ClassFile.attribute(field.codeName, ClassFile.row());
        field.field(field.name("x"), field.name("I"), code, code).fileAttributes(code, code);
        CHECK.whole("a field's and the file's count nothing", field.toBytes());
    }

    // Rule 17: nothing stands behind the file's attributes (there).

    private static void nothingBehindTheFile() {
        byte[] file = sample().toBytes();
        CHECK.whole("nothing behind", file);
        for (int more : new int[] {1, 2, 300}) {
            CHECK.broken(more + " behind", Trays.cut(file, file.length + more), 17, file.length);
        }
        ClassFile sample = sample();
        byte[] none = Trays.with(file, sample.attributesPlace() + 1, 0);
        CHECK.broken("attributes that are not counted", none, 17, sample.attributesPlace() + 2);
    }

    // Then rule by rule: 6 to 12, 17, 13 and 14, 15, 16.

    private static void theLowestRuleIsTold() {
        ClassFile sample = new ClassFile().field("x", "I").field("y", "I").method("a", "()V", 0, 1, 0, 26, 177)
            .method("b", "()V", 0, 1, 177);
        int k = sample.classOf("Other");
        byte[] file = sample.toBytes();
        int[][] faults = {
            {16, sample.codePlace(0) + 1, sample.codePlace(0) + 1, 27},
            {15, sample.codePlace(0) + 2, sample.codePlace(0) + 2, 255},
            {14, sample.bodyPlace(1) + 13, sample.bodyPlace(1) + 12, 1},
            {13, sample.bodyPlace(0), sample.bodyPlace(0) + 1, 25},
            {12, sample.methodPlace(1), sample.methodPlace(1) + 9, 1},
            {11, sample.fieldPlace(1) + 2, sample.fieldPlace(1) + 3, file[sample.fieldPlace(0) + 3]},
            {10, sample.fieldPlace(0) + 4, sample.fieldPlace(0) + 5, sample.codeName},
            {9, sample.methodPlace(0) + 2, sample.methodPlace(0) + 3, 0},
            {8, sample.classPlace() + 2, sample.classPlace() + 3, 0},
            {7, sample.methodPlace(1), sample.methodPlace(1) + 1, 0},
            {6, sample.tagPlace(k), sample.tagPlace(k) + 2, 0},
            {5, sample.methodsPlace(), sample.methodsPlace(), 1},
        };
        byte[] all = file;
        for (int[] fault : faults) {
            CHECK.broken("rule " + fault[0] + " alone", Trays.with(file, fault[2], fault[3]), fault[0], fault[1]);
            all = Trays.with(all, fault[2], fault[3]);
            CHECK.broken("rule " + fault[0] + " with those behind it", all, fault[0], fault[1]);
            byte[] longer = Trays.cut(all, all.length + 1);
            boolean later = fault[0] > 12;
            CHECK.broken("rule 17 with rule " + fault[0], longer, later ? 17 : fault[0], later ? file.length : fault[1]);
        }
    }
}
