/** Promises 4 and 5: rules 6 to 12. */
public final class NamesTest {
    private static final Check CHECK = new Check();

    public static void main(String[] args) {
        entriesPointToTheirSorts();
        flags();
        classes();
        membersHaveNames();
        typesOfFields();
        typesOfMethods();
        typesInPairs();
        namesAreNotRepeated();
        oneCode();
        ruleByRule();
        CHECK.finish();
    }

    /** One entry of each sort that points nowhere itself, and what they are. */
    private static final class Sorts {
        final ClassFile file = new ClassFile();
        final int name = file.name("I");
        final int method = file.name("()V");
        final int number = file.intOf(1);
        final int far = file.longOf(1);
        final int owner = file.classAt(name);
        final int pair = file.pairAt(name, name);
        final int call = file.pairAt(name, method);
        final int[] all = {0, name, number, far, far + 1, owner, pair, file.fieldAt(owner, pair),
            file.methodAt(owner, call), 400, 65535};
    }

    private static void entriesPointToTheirSorts() {
        Sorts told = new Sorts();
        for (int to : told.all) {
            Sorts sorts = new Sorts();
            pointed("CLASS to " + to, sorts, sorts.file.classAt(to), to == sorts.name);
            sorts = new Sorts();
            pointed("PAIR to " + to + " first", sorts, sorts.file.pairAt(to, sorts.name), to == sorts.name);
            sorts = new Sorts();
            pointed("PAIR to " + to + " second", sorts, sorts.file.pairAt(sorts.name, to), to == sorts.name);
            sorts = new Sorts();
            pointed("FIELD to " + to + " first", sorts, sorts.file.fieldAt(to, sorts.pair), to == sorts.owner);
            sorts = new Sorts();
            pointed("METHOD to " + to + " first", sorts, sorts.file.methodAt(to, sorts.call), to == sorts.owner);
            if (to != told.call && to != told.pair) {
                sorts = new Sorts();
                pointed("FIELD to " + to + " second", sorts, sorts.file.fieldAt(sorts.owner, to), false);
                sorts = new Sorts();
                pointed("METHOD to " + to + " second", sorts, sorts.file.methodAt(sorts.owner, to), false);
            }
        }
        ClassFile forward = new ClassFile();
        forward.classAt(forward.entries() + 1);
        forward.name("later");
        CHECK.whole("a CLASS before its NAME", forward.toBytes());

        ClassFile alone = new ClassFile(f -> f.classAt(0));
        CHECK.broken("the first entry of the pool", alone.toBytes(), 6, alone.tagPlace(1));

        ClassFile two = new ClassFile();
        int first = two.classAt(0);
        two.pairAt(0, 0);
        CHECK.broken("the first of two", two.toBytes(), 6, two.tagPlace(first));
    }

    private static void pointed(String what, Sorts sorts, int entry, boolean well) {
        CHECK.broken(what, sorts.file.toBytes(), well ? 0 : 6, well ? -1 : sorts.file.tagPlace(entry));
    }

    private static ClassFile sample() {
        ClassFile file = new ClassFile();
        int other = file.name("Other");
        byte[] attribute = ClassFile.attribute(other, ClassFile.row(4));
        file.field(file.name("x"), file.name("I"), attribute, attribute);
        file.field("y", "[I");
        byte[] code = ClassFile.attribute(file.codeName, ClassFile.body(1, 1, ClassFile.row(177)));
        file.methodWith(file.name("a"), file.name("()V"), code, attribute);
        file.methodWith(file.name("b"), file.name("(I)V"), code);
        return file.fileAttributes(attribute, attribute);
    }

    private static void flags() {
        ClassFile sample = sample();
        byte[] file = sample.toBytes();
        int[] places = {sample.classPlace(), sample.fieldPlace(0), sample.fieldPlace(1),
            sample.methodPlace(0), sample.methodPlace(1)};
        byte[] allWrong = file;
        for (int i = places.length - 1; i >= 0; i--) {
            CHECK.broken("flags with one more", Trays.with(file, places[i] + 1, file[places[i] + 1] + 1), 7, places[i]);
            CHECK.broken("flags with a high bit", Trays.with(file, places[i], 128), 7, places[i]);
            CHECK.broken("flags that are 0", Trays.with(file, places[i], 0, 0), 7, places[i]);
            allWrong = Trays.with(allWrong, places[i], 1, 1);
            CHECK.broken("flags and all behind them", allWrong, 7, places[i]);
        }
    }

    private static void classes() {
        ClassFile sample = sample();
        byte[] file = sample.toBytes();
        int p = sample.classPlace() + 2;
        for (int entry : new int[] {0, 1, sample.codeName, 499, 65535}) {
            CHECK.broken("its class is " + entry, Trays.with(file, p, entry >> 8, entry), 8, p);
            CHECK.broken("the class above is " + entry, Trays.with(file, p + 2, entry >> 8, entry), 8, p + 2);
        }
        CHECK.whole("both are the same", Trays.with(file, p + 2, 0, 2));
        CHECK.broken("the U2 behind them is 1", Trays.with(file, p + 4, 0, 1), 8, p + 4);
        CHECK.broken("the U2 behind them is 256", Trays.with(file, p + 4, 1, 0), 8, p + 4);
    }

    private static void membersHaveNames() {
        ClassFile sample = sample();
        byte[] file = sample.toBytes();
        int[] places = {sample.fieldPlace(0) + 2, sample.fieldPlace(0) + 4, sample.fieldPlace(0) + 8,
            sample.fieldPlace(0) + 15, sample.fieldPlace(1) + 2, sample.fieldPlace(1) + 4,
            sample.methodPlace(0) + 2, sample.methodPlace(0) + 4, sample.methodPlace(0) + 8,
            sample.methodPlace(1) - 7, sample.methodPlace(1) + 2, sample.methodPlace(1) + 4,
            sample.methodPlace(1) + 8, sample.attributesPlace() + 2, sample.attributesPlace() + 9};
        byte[] allWrong = file;
        for (int i = places.length - 1; i >= 0; i--) {
            CHECK.broken("a CLASS at " + i, Trays.with(file, places[i], 0, 2), 9, places[i]);
            CHECK.broken("no entry at " + i, Trays.with(file, places[i], 0, 0), 9, places[i]);
            CHECK.broken("beyond the pool at " + i, Trays.with(file, places[i], 255, 255), 9, places[i]);
            allWrong = Trays.with(allWrong, places[i], 1, 255);
            CHECK.broken("at " + i + " and behind it", allWrong, 9, places[i]);
        }
    }

    private static void typesOfFields() {
        for (String type : new String[] {"I", "J", "[I"}) {
            CHECK.whole("a field's " + type, new ClassFile().field("x", type).toBytes());
        }
        ClassFile early = new ClassFile(f -> f.name("J"));
        CHECK.whole("a field's type that is entry 1", early.field(early.name("x"), 1).toBytes());
        ClassFile first = new ClassFile().field("x", "V").field("y", "I");
        CHECK.broken("the first field's type", first.toBytes(), 10, first.fieldPlace(0) + 4);
        for (String type : new String[] {"V", "[", "[J", "[[I", "II", "JJ", "IJ", "[II", "D", "i", "()V", "(I)I", "LMain;"}) {
            ClassFile file = new ClassFile().field("x", "I").field("y", type);
            CHECK.broken("a field's " + type, file.toBytes(), 10, file.fieldPlace(1) + 4);
        }
    }

    private static void typesOfMethods() {
        String[] good = {"()V", "()I", "()J", "()[I", "(I)V", "(J)J", "([I)[I", "(IJ[I)V", "([I[I)V", "(IIIIIIII)V",
            "(JJJJ)V", "([I[I[I[I[I[I[I[I)V", "(JJJII)J"};
        for (String type : good) {
            CHECK.whole("a method's " + type, new ClassFile().method("a", type, 1, 8, 177).toBytes());
        }
        ClassFile first = new ClassFile().method("a", "V", 1, 24, 177).method("b", "()V", 1, 24, 177);
        CHECK.broken("the first method's type", first.toBytes(), 10, first.methodPlace(0) + 4);
        String[] bad = {"I", "J", "[I", "V", "(", ")", "()", "(I", "(I)", "(V)V", "()VV", "()II", "()[", "()[J", "([)V",
            "((I)V", "(I))V", "()IV", "()VI", "I()V", "([[I)V", "([J)V", "(D)V", ")V", ")(V", "(I)[II",
            "(IIIIIIIII)V", "(JJJJI)V", "(JJJJJ)V", "([I[I[I[I[I[I[I[I[I)V"};
        for (String type : bad) {
            ClassFile file = new ClassFile().method("a", "()V", 1, 24, 177).method("b", type, 1, 24, 177);
            CHECK.broken("a method's " + type, file.toBytes(), 10, file.methodPlace(1) + 4);
        }
    }

    private static void typesInPairs() {
        for (String type : new String[] {"I", "J", "[I", "()V", "(JJ)[I", "no.type", "V", "(I", "II"}) {
            boolean field = type.equals("I") || type.equals("J") || type.equals("[I");
            boolean method = type.equals("()V") || type.equals("(JJ)[I");
            ClassFile pair = new ClassFile();
            pair.pairOf("x", type);
            CHECK.whole("a PAIR alone with " + type, pair.toBytes());
            ClassFile fields = new ClassFile();
            int k = fields.fieldOf("x", type);
            CHECK.broken("a FIELD's " + type, fields.toBytes(), field ? 0 : 10, field ? -1 : fields.tagPlace(k));
            ClassFile methods = new ClassFile();
            k = methods.methodOf("x", type);
            CHECK.broken("a METHOD's " + type, methods.toBytes(), method ? 0 : 10, method ? -1 : methods.tagPlace(k));
        }
        // The limit of 8 places is told for methods, not for PAIRs.
        ClassFile many = new ClassFile();
        many.methodOf("x", "(IIIIIIIII)V");
        CHECK.whole("a METHOD's parameters of 9 places", many.toBytes());

        ClassFile early = new ClassFile(f -> {
            f.fieldAt(2, 4);
            f.classAt(3);
            f.name("Other");
            f.pairAt(5, 6);
            f.name("x");
            f.name("()V");
        });
        CHECK.broken("a FIELD's that is entry 1", early.toBytes(), 10, early.tagPlace(1));

        ClassFile both = new ClassFile();
        both.field("x", "V");
        int k = both.fieldOf("x", "V");
        CHECK.broken("a FIELD's before a field's", both.toBytes(), 10, both.tagPlace(k));
    }

    private static void namesAreNotRepeated() {
        ClassFile fields = new ClassFile().field("x", "I").field("y", "I").field("x", "J").field("y", "I");
        CHECK.broken("fields", fields.toBytes(), 11, fields.fieldPlace(2) + 2);
        ClassFile methods = new ClassFile().method("a", "()V", 0, 1, 177).method("aa", "()V", 0, 1, 177)
            .method("ab", "()V", 0, 1, 177).method("a", "(I)V", 0, 1, 177);
        CHECK.broken("methods", methods.toBytes(), 11, methods.methodPlace(3) + 2);
        ClassFile both = new ClassFile().field("a", "I").method("a", "()V", 0, 1, 177);
        CHECK.whole("a field and a method", both.toBytes());
        ClassFile same = new ClassFile();
        int name = same.name("z");
        int type = same.name("I");
        same.field(name, type).field(name, type);
        CHECK.broken("the same entry", same.toBytes(), 11, same.fieldPlace(1) + 2);
        ClassFile order = new ClassFile().method("a", "()V", 0, 1, 177).method("a", "()V", 0, 1, 177)
            .field("x", "I").field("x", "I");
        CHECK.broken("fields before methods", order.toBytes(), 11, order.fieldPlace(1) + 2);
    }

    private static void oneCode() {
        byte[] body = ClassFile.body(0, 0, ClassFile.row(177));
        ClassFile none = new ClassFile().method("a", "()V", body);
        none.methodWith(none.name("b"), none.name("()V"), ClassFile.attribute(none.name("Codes"), body));
        CHECK.broken("no Code", none.toBytes(), 12, none.methodPlace(1));
        ClassFile bare = new ClassFile();
        bare.methodWith(bare.name("b"), bare.name("()V"));
        CHECK.broken("no attribute", bare.toBytes(), 12, bare.methodPlace(0));
        ClassFile two = new ClassFile();
        byte[] code = ClassFile.attribute(two.codeName, body);
        byte[] again = ClassFile.attribute(two.name("Code"), body);
        two.methodWith(two.name("a"), two.name("()V"), again);
        two.methodWith(two.name("b"), two.name("()V"), code, ClassFile.attribute(two.name("X"), body), again);
        CHECK.broken("two Codes by two NAMEs", two.toBytes(), 12, two.methodPlace(1));
        ClassFile fields = new ClassFile();
        byte[] wrong = ClassFile.attribute(fields.codeName, ClassFile.row(255));
        fields.field(fields.name("x"), fields.name("I"), wrong, wrong).fileAttributes(wrong);
        CHECK.whole("a field's Code counts nothing", fields.toBytes());
    }

    /** Each fault alone breaks its rule; together the one with the lowest number is told. */
    private static void ruleByRule() {
        ClassFile sample = sample();
        byte[] file = sample.toBytes();
        int[][] faults = {
            {12, sample.methodPlace(0), sample.methodPlace(0) + 9, 1},
            {11, sample.methodPlace(1) + 2, sample.methodPlace(1) + 3, file[sample.methodPlace(0) + 3]},
            {10, sample.fieldPlace(1) + 4, sample.fieldPlace(1) + 5, file[sample.fieldPlace(1) + 3]},
            {9, sample.attributesPlace() + 2, sample.attributesPlace() + 3, 0},
            {8, sample.classPlace() + 4, sample.classPlace() + 5, 1},
            {7, sample.methodPlace(1), sample.methodPlace(1) + 1, 8},
            {6, sample.tagPlace(4), sample.tagPlace(4) + 2, 4},
        };
        byte[] all = file;
        for (int[] fault : faults) {
            CHECK.broken("rule " + fault[0] + " alone", Trays.with(file, fault[2], fault[3]), fault[0], fault[1]);
            all = Trays.with(all, fault[2], fault[3]);
            CHECK.broken("rule " + fault[0] + " before higher ones", all, fault[0], fault[1]);
        }
    }
}
