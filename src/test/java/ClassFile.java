import java.io.ByteArrayOutputStream;
import java.util.ArrayList;
import java.util.List;
import java.util.function.Consumer;

/** Writes a file part by part, and remembers where the parts stand. Numbers of entries begin at 1. */
final class ClassFile {
    static final int HEAD = 10;

    /** Bytes, given as numbers. */
    static final class Row {
        private final ByteArrayOutputStream bytes = new ByteArrayOutputStream();

        Row u1(int... numbers) {
            for (int number : numbers) {
                bytes.write(number);
            }
            return this;
        }

        Row u2(int number) {
            return u1(number >> 8, number);
        }

        Row u4(int number) {
            return u2(number >> 16).u2(number);
        }

        Row u8(long number) {
            return u4((int) (number >> 32)).u4((int) number);
        }

        Row all(byte[] row) {
            bytes.writeBytes(row);
            return this;
        }

        int length() {
            return bytes.size();
        }

        byte[] toBytes() {
            return bytes.toByteArray();
        }
    }

    private final Row pool = new Row();
    private final List<Integer> tags = new ArrayList<>();
    private final List<byte[]> fields = new ArrayList<>();
    private final List<byte[]> methods = new ArrayList<>();
    private byte[] fileAttributes = new byte[] {0, 0};
    private final int thisClass;
    private final int aboveClass;
    final int codeName;

    ClassFile() {
        this(before -> { });
    }

    /** The pool begins with the entries that are put in before. */
    ClassFile(Consumer<ClassFile> before) {
        tags.add(-1);
        before.accept(this);
        thisClass = classOf("Main");
        aboveClass = classOf("Top");
        codeName = name("Code");
    }

    private ClassFile(ClassFile other) {
        pool.all(other.pool.toBytes());
        tags.addAll(other.tags);
        thisClass = other.thisClass;
        aboveClass = other.aboveClass;
        codeName = other.codeName;
    }

    private int entry(Row row) {
        tags.add(HEAD + pool.length());
        pool.all(row.toBytes());
        return tags.size() - 1;
    }

    int name(String text) {
        Row row = new Row().u1(1).u2(text.length());
        for (char letter : text.toCharArray()) {
            row.u1(letter);
        }
        return entry(row);
    }

    int intOf(int number) {
        return entry(new Row().u1(3).u4(number));
    }

    int longOf(long number) {
        int k = entry(new Row().u1(5).u8(number));
        tags.add(-1);
        return k;
    }

    int classAt(int name) {
        return entry(new Row().u1(7).u2(name));
    }

    int classOf(String text) {
        return classAt(name(text));
    }

    int pairAt(int name, int type) {
        return entry(new Row().u1(12).u2(name).u2(type));
    }

    int pairOf(String name, String type) {
        return pairAt(name(name), name(type));
    }

    int fieldAt(int owner, int pair) {
        return entry(new Row().u1(9).u2(owner).u2(pair));
    }

    int methodAt(int owner, int pair) {
        return entry(new Row().u1(10).u2(owner).u2(pair));
    }

    int fieldOf(String name, String type) {
        return fieldAt(thisClass, pairOf(name, type));
    }

    int methodOf(String name, String type) {
        return methodAt(thisClass, pairOf(name, type));
    }

    static byte[] attributes(byte[]... attributes) {
        Row row = new Row().u2(attributes.length);
        for (byte[] attribute : attributes) {
            row.all(attribute);
        }
        return row.toBytes();
    }

    static byte[] attribute(int name, byte[] content) {
        return new Row().u2(name).u4(content.length).all(content).toBytes();
    }

    private static byte[] member(int name, int type, byte[] attributes) {
        return new Row().u2(9).u2(name).u2(type).all(attributes).toBytes();
    }

    ClassFile field(int name, int type, byte[]... attributes) {
        fields.add(member(name, type, attributes(attributes)));
        return this;
    }

    ClassFile field(String name, String type) {
        return field(name(name), name(type));
    }

    ClassFile methodWith(int name, int type, byte[]... attributes) {
        methods.add(member(name, type, attributes(attributes)));
        return this;
    }

    ClassFile method(String name, String type, byte[] code) {
        return methodWith(name(name), name(type), attribute(codeName, code));
    }

    ClassFile method(String name, String type, int stack, int locals, int... code) {
        return method(name, type, body(stack, locals, row(code)));
    }

    ClassFile fileAttributes(byte[]... attributes) {
        fileAttributes = attributes(attributes);
        return this;
    }

    static byte[] row(int... numbers) {
        return new Row().u1(numbers).toBytes();
    }

    /** What stands in an attribute Code; a catch is four numbers. */
    static byte[] body(int stack, int locals, byte[] code, int[]... catches) {
        Row row = new Row().u2(stack).u2(locals).u4(code.length).all(code).u2(catches.length);
        for (int[] caught : catches) {
            for (int number : caught) {
                row.u2(number);
            }
        }
        return row.u2(0).toBytes();
    }

    byte[] toBytes() {
        Row row = new Row().u1(202, 254, 186, 190, 0, 0, 0, 49).u2(tags.size()).all(pool.toBytes());
        row.u2(33).u2(thisClass).u2(aboveClass).u2(0);
        row.u2(fields.size());
        fields.forEach(row::all);
        row.u2(methods.size());
        methods.forEach(row::all);
        return row.all(fileAttributes).toBytes();
    }

    /** Another file with the same pool, and without members. */
    ClassFile copy() {
        return new ClassFile(this);
    }

    /** A file without a broken rule that is so many bytes long: an attribute fills it up. */
    static byte[] whole(int length) {
        ClassFile file = new ClassFile();
        int fill = file.name("Fill");
        int bare = file.fileAttributes(attribute(fill, row())).toBytes().length;
        return file.fileAttributes(attribute(fill, new byte[length - bare])).toBytes();
    }

    /** How many numbers of entries there are, with the one behind the last. */
    int entries() {
        return tags.size();
    }

    int tagPlace(int entry) {
        return tags.get(entry);
    }

    int classPlace() {
        return HEAD + pool.length();
    }

    int fieldsPlace() {
        return classPlace() + 8;
    }

    int fieldPlace(int i) {
        return fieldsPlace() + 2 + length(fields, i);
    }

    int methodsPlace() {
        return fieldPlace(fields.size());
    }

    int methodPlace(int m) {
        return methodsPlace() + 2 + length(methods, m);
    }

    int attributesPlace() {
        return methodPlace(methods.size());
    }

    /** Where MOST STACK of a method stands that has Code as its first attribute. */
    int bodyPlace(int m) {
        return methodPlace(m) + 14;
    }

    int codePlace(int m) {
        return bodyPlace(m) + 8;
    }

    private static int length(List<byte[]> rows, int count) {
        int length = 0;
        for (byte[] row : rows.subList(0, count)) {
            length += row.length;
        }
        return length;
    }
}
