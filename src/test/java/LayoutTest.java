/** Promises 4 and 5: rules 1 to 5, which are looked at together, and rule 17. */
public final class LayoutTest {
    private static final Check CHECK = new Check();

    public static void main(String[] args) {
        head();
        everyCutBreaksRuleTwo();
        attributesBeyondTheFile();
        tags();
        names();
        counts();
        firstOfRulesOneToFive();
        nothingBehind();
        CHECK.finish();
    }

    private static ClassFile sample() {
        ClassFile file = new ClassFile();
        int other = file.name("Other");
        file.field(file.name("x"), file.name("I"), ClassFile.attribute(other, ClassFile.row(1, 2, 3)));
        file.field("y", "J");
        file.intOf(7);
        file.longOf(8);
        file.fieldOf("x", "I");
        file.methodOf("a", "()V");
        file.method("a", "()V", ClassFile.body(1, 1, ClassFile.row(177), new int[] {0, 1, 0, 0}));
        file.methodWith(file.name("b"), file.name("(IJ)J"), ClassFile.attribute(other, ClassFile.row()),
            ClassFile.attribute(file.codeName, ClassFile.body(2, 3, ClassFile.row(9, 173))));
        file.fileAttributes(ClassFile.attribute(other, ClassFile.row(5)), ClassFile.attribute(other, ClassFile.row()));
        return file;
    }

    private static void head() {
        byte[] file = sample().toBytes();
        CHECK.whole("the sample", file);
        CHECK.whole("the least file", new ClassFile().toBytes());
        for (int p = 0; p < 8; p++) {
            CHECK.broken("byte " + p, Trays.with(file, p, file[p] ^ 1), 1, p);
            CHECK.broken("byte " + p + " and all behind it", Trays.with(Trays.cut(file, p + 1), p, 77), 1, p);
        }
        CHECK.broken("two wrong bytes", Trays.with(file, 5, 1, 1), 1, 5);
    }

    private static void everyCutBreaksRuleTwo() {
        byte[] file = sample().toBytes();
        for (int length = 0; length < file.length; length++) {
            CHECK.broken("cut to " + length, Trays.cut(file, length), 2, length);
        }
    }

    private static void attributesBeyondTheFile() {
        ClassFile sample = sample();
        byte[] file = sample.toBytes();
        int[] counts = {sample.fieldPlace(0) + 6, sample.methodPlace(0) + 6, sample.attributesPlace()};
        for (int p : counts) {
            CHECK.broken("an attribute's length is far too large", Trays.with(file, p + 4, 0, 1, 0, 0), 2, file.length);
            CHECK.broken("its highest bit is set", Trays.with(file, p + 4, 255, 255, 255, 250), 2, file.length);
            CHECK.broken("it is the largest int", Trays.with(file, p + 4, 127, 255, 255, 255), 2, file.length);
            CHECK.broken("far too many attributes", Trays.with(file, p, 255, 255), 2, file.length);
        }
        int last = file.length - 4;
        CHECK.broken("the last attribute by one", Trays.with(file, last, 0, 0, 0, 1), 2, file.length);
    }

    private static void tags() {
        ClassFile sample = sample();
        byte[] file = sample.toBytes();
        for (int tag = 0; tag < 256; tag++) {
            boolean told = tag == 1 || tag == 3 || tag == 5 || tag == 7 || tag == 9 || tag == 10 || tag == 12;
            if (!told) {
                CHECK.broken("tag " + tag, Trays.with(file, sample.tagPlace(3), tag), 3, sample.tagPlace(3));
            }
        }
        ClassFile atEnd = new ClassFile();
        int last = atEnd.longOf(1);
        CHECK.whole("a long as the last entry", atEnd.toBytes());
        byte[] oneMore = Trays.with(atEnd.toBytes(), 8, 0, atEnd.entries() + 1);
        CHECK.broken("the number behind a long is no entry", oneMore, 3, atEnd.tagPlace(last) + 9);
        byte[] half = Trays.with(atEnd.toBytes(), 8, 0, atEnd.entries() - 1);
        CHECK.whole("a long whose second number is not below n", half);
    }

    private static void names() {
        for (int length : new int[] {1, 2, 99, 100}) {
            ClassFile file = new ClassFile();
            file.name("x".repeat(length));
            CHECK.whole("a name of " + length, file.toBytes());
        }
        for (int length : new int[] {0, 101, 300, 65535}) {
            ClassFile file = new ClassFile();
            int name = file.name("x".repeat(length));
            byte[] bytes = file.toBytes();
            byte[] kept = Trays.cut(bytes, Math.min(bytes.length, 1000));
            CHECK.broken("a name of " + length, kept, 4, file.tagPlace(name));
        }
        for (int letter = 0; letter < 256; letter++) {
            ClassFile file = new ClassFile();
            int name = file.name("ab" + (char) letter);
            if (letter >= 33 && letter <= 126) {
                CHECK.whole("letter " + letter, file.toBytes());
            } else {
                CHECK.broken("letter " + letter, file.toBytes(), 4, file.tagPlace(name));
            }
        }
        ClassFile first = new ClassFile();
        int name = first.name(" ab");
        CHECK.broken("the first letter", first.toBytes(), 4, first.tagPlace(name));
    }

    private static void counts() {
        ClassFile large = new ClassFile();
        while (large.entries() < 500) {
            large.intOf(1);
        }
        CHECK.whole("n is 500", large.toBytes());
        large.intOf(1);
        CHECK.broken("n is 501", large.toBytes(), 5, 8);
        CHECK.broken("n is 0", Trays.with(large.toBytes(), 8, 0, 0), 5, 8);
        CHECK.broken("n is 65535", Trays.with(large.toBytes(), 8, 255, 255), 5, 8);
        CHECK.broken("n is half there", Trays.cut(large.toBytes(), 9), 2, 9);

        byte[] nothing = new ClassFile.Row().u1(202, 254, 186, 190, 0, 0, 0, 49).u2(1)
            .u2(33).u2(1).u2(1).u2(0).u2(0).u2(0).u2(0).toBytes();
        CHECK.broken("n is 1: no entries", nothing, 8, 12);

        for (int count : new int[] {24, 25}) {
            ClassFile fields = new ClassFile();
            ClassFile methods = new ClassFile();
            for (int i = 0; i < count; i++) {
                fields.field("f" + i, "I");
                methods.method("m" + i, "()V", 0, 0, 177);
            }
            int rule = count == 24 ? 0 : 5;
            CHECK.broken(count + " fields", fields.toBytes(), rule, rule == 0 ? -1 : fields.fieldsPlace());
            CHECK.broken(count + " methods", methods.toBytes(), rule, rule == 0 ? -1 : methods.methodsPlace());
        }
        ClassFile none = new ClassFile();
        CHECK.broken("65535 fields", Trays.with(none.toBytes(), none.fieldsPlace(), 255, 255), 5, none.fieldsPlace());
    }

    private static void firstOfRulesOneToFive() {
        ClassFile sample = sample();
        byte[] file = sample.toBytes();
        int tag = sample.tagPlace(3);
        CHECK.broken("head, then n", Trays.with(file, 7, 48, 255, 255), 1, 7);
        CHECK.broken("n, then a tag", Trays.with(Trays.with(file, 8, 255, 255), tag, 0), 5, 8);
        CHECK.broken("a tag, then a count of fields",
            Trays.with(Trays.with(file, tag, 0), sample.fieldsPlace(), 9, 9), 3, tag);
        CHECK.broken("a count of fields, then one of methods",
            Trays.with(Trays.with(file, sample.fieldsPlace(), 0, 25), sample.methodsPlace(), 0, 25),
            5, sample.fieldsPlace());
        CHECK.broken("a name, then a tag",
            Trays.with(Trays.with(file, sample.tagPlace(1) + 3, 1), tag, 0), 4, sample.tagPlace(1));
        CHECK.broken("rules 6 and 7 come later",
            Trays.with(Trays.with(file, sample.tagPlace(2) + 1, 0, 0), sample.methodsPlace(), 1, 0),
            5, sample.methodsPlace());

        ClassFile last = new ClassFile();
        int end = last.tagPlace(last.name("xyz"));
        CHECK.broken("a wrong tag at the file's end", Trays.with(Trays.cut(last.toBytes(), end + 1), end, 2), 3, end);
        CHECK.broken("a wrong length at the file's end",
            Trays.with(Trays.cut(last.toBytes(), end + 3), end + 2, 0), 4, end);
        CHECK.broken("a wrong n at the file's end", Trays.with(Trays.cut(last.toBytes(), 10), 8, 2), 5, 8);
        CHECK.broken("too many fields at the file's end",
            Trays.with(Trays.cut(last.toBytes(), last.fieldsPlace() + 2), last.fieldsPlace(), 1), 5, last.fieldsPlace());

        // The tag of a NAME that is cut off stands before the file's end.
        ClassFile cut = new ClassFile();
        int name = cut.name("ab cd");
        int place = cut.tagPlace(name);
        CHECK.broken("cut behind the wrong letter", Trays.cut(cut.toBytes(), place + 6), 4, place);
        CHECK.broken("cut before the wrong letter", Trays.cut(cut.toBytes(), place + 5), 2, place + 5);
        CHECK.broken("a name that is too long for both", Trays.with(Trays.cut(cut.toBytes(), place + 5), place + 1, 0, 101),
            4, place);
        CHECK.broken("a name that is too long for the file", Trays.with(Trays.cut(cut.toBytes(), place + 5), place + 1, 0, 100),
            2, place + 5);
    }

    private static void nothingBehind() {
        byte[] file = sample().toBytes();
        for (int more : new int[] {1, 2, 50}) {
            CHECK.broken(more + " behind", Trays.cut(file, file.length + more), 17, file.length);
        }
        byte[] longer = Trays.cut(file, file.length + 1);
        ClassFile sample = sample();
        CHECK.broken("rule 12 before 17", Trays.with(longer, sample.methodPlace(0) + 9, 1), 12, sample.methodPlace(0));
        CHECK.broken("rule 17 before 13", Trays.with(longer, sample.bodyPlace(0), 9), 17, file.length);
    }
}
