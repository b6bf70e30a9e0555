import java.util.Arrays;

/** Promises 4 and 5: rules 13 and 14. */
public final class BodiesTest {
    private static final Check CHECK = new Check();

    public static void main(String[] args) {
        stackAndLocals();
        lengthOfCode();
        catches();
        everyCut();
        attributesInCode();
        nothingBehind();
        fromTheLeft();
        methodByMethod();
        CHECK.finish();
    }

    private static ClassFile oneMethod(String type, byte[] body) {
        return new ClassFile().method("a", type, body);
    }

    private static void stackAndLocals() {
        for (int most : new int[] {0, 1, 23, 24, 25, 256, 65535}) {
            ClassFile stack = oneMethod("()V", ClassFile.body(most, 0, ClassFile.row(177)));
            CHECK.broken("MOST STACK " + most, stack.toBytes(), most > 24 ? 13 : 0, most > 24 ? stack.bodyPlace(0) : -1);
            ClassFile locals = oneMethod("()V", ClassFile.body(0, most, ClassFile.row(177)));
            CHECK.broken("MOST LOCALS " + most, locals.toBytes(), most > 24 ? 13 : 0,
                most > 24 ? locals.bodyPlace(0) + 2 : -1);
        }
        String[] types = {"(I)V", "(J)V", "([I)V", "(IJ[I)V", "(JJJJ)V", "(IIIIIIII)I"};
        int[] places = {1, 2, 1, 4, 8, 8};
        for (int i = 0; i < types.length; i++) {
            ClassFile enough = oneMethod(types[i], ClassFile.body(0, places[i], ClassFile.row(177)));
            CHECK.whole("just the places of " + types[i], enough.toBytes());
            ClassFile few = oneMethod(types[i], ClassFile.body(0, places[i] - 1, ClassFile.row(177)));
            CHECK.broken("one less than " + types[i], few.toBytes(), 13, few.bodyPlace(0) + 2);
        }
    }

    private static void lengthOfCode() {
        for (int length : new int[] {0, 1, 1199, 1200, 1201, 1300}) {
            ClassFile file = oneMethod("()V", ClassFile.body(0, 0, new byte[length]));
            boolean good = length >= 1 && length <= 1200;
            CHECK.broken("code of " + length, file.toBytes(), good ? 0 : 13, good ? -1 : file.bodyPlace(0) + 4);
        }
        ClassFile file = oneMethod("()V", ClassFile.body(0, 0, new byte[9]));
        for (int high : new int[] {1, 128, 255}) {
            CHECK.broken("high byte of n " + high, Trays.with(file.toBytes(), file.bodyPlace(0) + 4, high),
                13, file.bodyPlace(0) + 4);
        }
        byte[] bare = new ClassFile.Row().u2(0).u2(0).u4(1201).toBytes();
        ClassFile ended = oneMethod("()V", bare);
        CHECK.broken("n at the end of Code", ended.toBytes(), 13, ended.bodyPlace(0) + 4);
        ended = oneMethod("()V", Arrays.copyOf(bare, 7));
        CHECK.broken("n beyond the end of Code", ended.toBytes(), 14, ended.bodyPlace(0) + 7);
        int end = file.bodyPlace(0) + 8 + 9 + 4;
        CHECK.broken("n goes beyond Code", Trays.with(file.toBytes(), file.bodyPlace(0) + 7, 14), 14, end);
        CHECK.broken("n takes all of Code", Trays.with(file.toBytes(), file.bodyPlace(0) + 7, 13), 14, end);
    }

    private static void catches() {
        for (int count : new int[] {0, 1, 16, 17}) {
            int[][] rows = new int[count][];
            Arrays.fill(rows, new int[] {0, 1, 0, 0});
            ClassFile file = oneMethod("()V", ClassFile.body(0, 0, ClassFile.row(177), rows));
            boolean good = count <= 16;
            CHECK.broken(count + " catches", file.toBytes(), good ? 0 : 13, good ? -1 : file.codePlace(0) + 1);
        }
        ClassFile file = oneMethod("()V", ClassFile.body(0, 0, ClassFile.row(177)));
        CHECK.broken("65535 catches", Trays.with(file.toBytes(), file.codePlace(0) + 1, 255, 255), 13, file.codePlace(0) + 1);
        CHECK.broken("catches beyond Code", Trays.with(file.toBytes(), file.codePlace(0) + 2, 1), 14, file.codePlace(0) + 5);
    }

    /** Each shorter Code breaks rule 14 at its end. */
    private static void everyCut() {
        byte[] attribute = ClassFile.attribute(0, ClassFile.row(1, 2, 3));
        byte[] bare = ClassFile.body(2, 3, ClassFile.row(3, 172), new int[] {0, 1, 0, 0}, new int[] {0, 2, 1, 0});
        byte[] whole = new ClassFile.Row().all(Arrays.copyOf(bare, bare.length - 2))
            .all(ClassFile.attributes(attribute, attribute)).toBytes();
        CHECK.whole("all of Code", oneMethod("()I", whole).toBytes());
        for (int length = 0; length < whole.length; length++) {
            ClassFile file = oneMethod("()I", Arrays.copyOf(whole, length));
            CHECK.broken("Code of " + length, file.toBytes(), 14, file.bodyPlace(0) + length);
        }
    }

    private static void attributesInCode() {
        byte[] bare = ClassFile.body(0, 0, ClassFile.row(177));
        for (int name : new int[] {0, 2, 3, 65535}) {
            byte[] body = new ClassFile.Row().all(Arrays.copyOf(bare, bare.length - 2))
                .all(ClassFile.attributes(ClassFile.attribute(name, ClassFile.row(7)))).toBytes();
            ClassFile file = oneMethod("()V", body);
            CHECK.whole("an attribute with the name " + name, file.toBytes());
            int length = file.bodyPlace(0) + body.length - 5;
            CHECK.broken("its length by one", Trays.with(file.toBytes(), length, 0, 0, 0, 2), 14, length + 5);
            CHECK.broken("its length with the highest bit", Trays.with(file.toBytes(), length, 128, 0, 0, 1), 14, length + 5);
            CHECK.broken("its length is -1", Trays.with(file.toBytes(), length, 255, 255, 255, 255), 14, length + 5);
            CHECK.broken("it leaves a byte behind", Trays.with(file.toBytes(), length, 0, 0, 0, 0), 14, length + 4);
        }
    }

    private static void nothingBehind() {
        byte[] body = ClassFile.body(0, 0, ClassFile.row(177));
        for (int more : new int[] {1, 5, 20}) {
            ClassFile file = oneMethod("()V", Arrays.copyOf(body, body.length + more));
            CHECK.broken(more + " behind the items", file.toBytes(), 14, file.bodyPlace(0) + body.length);
        }
    }

    private static void fromTheLeft() {
        ClassFile file = oneMethod("(I)V", Arrays.copyOf(ClassFile.body(0, 1, ClassFile.row(177)), 14));
        byte[] all = file.toBytes();
        int p = file.bodyPlace(0);
        CHECK.broken("an empty byte behind", all, 14, p + 13);
        all = Trays.with(all, p + 9, 0, 17);
        CHECK.broken("catches before what is behind", all, 13, p + 9);
        all = Trays.with(all, p + 4, 1);
        CHECK.broken("n before catches", all, 13, p + 4);
        all = Trays.with(all, p + 2, 0, 0);
        CHECK.broken("locals before n", all, 13, p + 2);
        all = Trays.with(all, p, 0, 25);
        CHECK.broken("stack before locals", all, 13, p);
    }

    private static void methodByMethod() {
        byte[] good = ClassFile.body(0, 0, ClassFile.row(177));
        ClassFile file = new ClassFile().method("a", "()V", good).method("b", "()V", Arrays.copyOf(good, good.length + 1))
            .method("c", "()V", ClassFile.body(25, 0, ClassFile.row(177)));
        CHECK.broken("14 of b before 13 of c", file.toBytes(), 14, file.bodyPlace(1) + good.length);
        CHECK.broken("13 of a before 14 of b", Trays.with(file.toBytes(), file.bodyPlace(0), 1), 13, file.bodyPlace(0));
        ClassFile later = new ClassFile().method("a", "()V", 0, 0, 255).method("b", "()V", 99, 0, 177);
        CHECK.broken("13 of b before 15 of a", later.toBytes(), 13, later.bodyPlace(1));
        ClassFile names = new ClassFile();
        byte[] other = ClassFile.attribute(names.name("Other"), ClassFile.row(1, 2));
        names.methodWith(names.name("a"), names.name("()V"), other, ClassFile.attribute(names.codeName,
            ClassFile.body(25, 0, ClassFile.row(177))), other);
        CHECK.broken("Code behind another attribute", names.toBytes(), 13, names.bodyPlace(0) + 8);
    }
}
