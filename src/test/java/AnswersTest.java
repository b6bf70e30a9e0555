/** Promises 4 to 11: what is told of the latest file without a broken rule. */
public final class AnswersTest {
    private static final Check CHECK = new Check();
    private static final int MIN = Integer.MIN_VALUE;
    private static final int MAX = Integer.MAX_VALUE;

    public static void main(String[] args) {
        readAndPlace();
        sizes();
        fields();
        methods();
        pushes();
        localsAndJumps();
        plainInstructions();
        membersByNumber();
        switches();
        brokenFilesChangeNothing();
        laterFilesTakeTheirPlace();
        earlierFilesLeaveNothing();
        CHECK.finish();
    }

    private static void readAndPlace() {
        FileRules rules = new FileRules();
        byte[] good = new ClassFile().toBytes();
        CHECK.due("read() a good file", Trays.read(rules, good), 0);
        CHECK.due("place() of it", rules.place(), -1);
        CHECK.due("read() the empty tray", rules.read(), 2);
        CHECK.due("place() of it", rules.place(), 0);
        CHECK.due("place() again", rules.place(), 0);
        rules.feed(0, 0, 0, 0, 0);
        CHECK.due("place() after feed", rules.place(), 0);
        CHECK.due("read() zeros", rules.read(), 1);
        CHECK.due("place() of them", rules.place(), 0);
        CHECK.due("read() a wrong file", Trays.read(rules, Trays.with(good, 5, 7)), 1);
        CHECK.due("place() of it", rules.place(), 5);
        CHECK.due("read() a good file again", Trays.read(rules, good), 0);
        CHECK.due("place() of it", rules.place(), -1);
        CHECK.due("the tray is empty", rules.end(1), false);
    }

    private static void sizes() {
        ClassFile file = new ClassFile().field("x", "I").field("y", "J").method("a", "()V", 0, 0, 177);
        file.longOf(1);
        FileRules rules = Trays.of(file.toBytes());
        CHECK.due("size(0)", rules.size(0), 2);
        CHECK.due("size(1)", rules.size(1), 1);
        CHECK.due("size(2)", rules.size(2), file.entries());
        for (int what : new int[] {-1, 3, MIN, MAX}) {
            CHECK.due("size(" + what + ")", rules.size(what), -1);
        }
        rules = Trays.of(new ClassFile().toBytes());
        CHECK.due("size(0) of the least file", rules.size(0), 0);
        CHECK.due("size(1) of the least file", rules.size(1), 0);
        CHECK.due("size(2) of the least file", rules.size(2), 6);
    }

    private static void fields() {
        ClassFile file = new ClassFile().field("x", "I").field("y", "J").field("z", "[I").method("a", "()V", 0, 0, 177);
        FileRules rules = Trays.of(file.toBytes());
        int[] types = {1, 2, 4};
        for (int k = 0; k < types.length; k++) {
            CHECK.due("field(" + k + ")", rules.field(k), types[k]);
        }
        for (int k : new int[] {-1, 3, 24, MIN, MAX}) {
            CHECK.due("field(" + k + ")", rules.field(k), -1);
        }
    }

    private static void methods() {
        int[] caught = {0, 2, 0, 0};
        ClassFile file = new ClassFile().method("a", "()V", ClassFile.body(5, 6, ClassFile.row(177)))
            .method("b", "(IJ[I)I", ClassFile.body(24, 7, ClassFile.row(16, 9, 172), caught, caught))
            .method("c", "(JJ)J", ClassFile.body(2, 4, ClassFile.row(30, 173), caught))
            .method("d", "([I[I)[I", ClassFile.body(1, 2, ClassFile.row(42, 0, 0, 176)));
        int[][] due = {{1, 5, 6, 0, 0, 7}, {2, 24, 7, 4, 2, 1}, {2, 2, 4, 4, 1, 2}, {4, 1, 2, 2, 0, 4}};
        FileRules rules = Trays.of(file.toBytes());
        for (int m = 0; m < due.length; m++) {
            for (int what = 0; what < 6; what++) {
                CHECK.due("method(" + m + ", " + what + ")", rules.method(m, what), due[m][what]);
            }
            for (int what : new int[] {-1, 6, MIN, MAX}) {
                CHECK.due("method(" + m + ", " + what + ")", rules.method(m, what), -1);
            }
        }
        for (int m : new int[] {-1, 4, 24, MIN, MAX}) {
            for (int what = 0; what < 6; what++) {
                CHECK.due("method(" + m + ", " + what + ")", rules.method(m, what), -1);
            }
        }
    }

    /** Instruction i of method 0 must be of this number, with this first number. */
    private static void due(FileRules rules, int i, int code, int first) {
        CHECK.due("code(0, " + i + ")", rules.code(0, i), code);
        CHECK.due("first(0, " + i + ")", rules.first(0, i), first);
    }

    private static void none(FileRules rules, int m, int i) {
        CHECK.due("code(" + m + ", " + i + ")", rules.code(m, i), -1);
        CHECK.due("first(" + m + ", " + i + ")", rules.first(m, i), 0);
        CHECK.due("target(" + m + ", " + i + ", 0)", rules.target(m, i, 0), -1);
    }

    private static void pushes() {
        ClassFile file = new ClassFile();
        int low = file.intOf(MIN);
        int minus = file.intOf(-2);
        int far = file.longOf(0x0123456789ABCDEFL);
        int other = file.longOf(-1L << 32);
        file.method("a", "()V", 1, 1, 1, 2, 3, 4, 5, 6, 7, 8, 9, 10, 16, 127, 16, 128, 16, 255, 17, 127, 255, 17, 128, 0,
            17, 0, 200, 18, low, 19, 0, minus, 20, 0, far, 20, 0, other, 177);
        FileRules rules = Trays.of(file.toBytes());
        due(rules, 0, 1, 0);
        for (int number = -1; number <= 5; number++) {
            due(rules, number + 2, 300, number);
        }
        due(rules, 8, 301, 0);
        due(rules, 9, 301, 1);
        int[] ints = {127, -128, -1, 32767, -32768, 200, MIN, -2};
        for (int i = 0; i < ints.length; i++) {
            due(rules, 10 + i, 300, ints[i]);
        }
        due(rules, 18, 301, 0x89ABCDEF);
        due(rules, 19, 301, 0);
        due(rules, 20, 177, 0);
        int[][] others = {{0, -1}, {0, 21}, {0, MIN}, {0, MAX}, {-1, 0}, {1, 0}, {MIN, 0}, {MAX, 0}, {24, 0}};
        for (int[] pair : others) {
            none(rules, pair[0], pair[1]);
        }
    }

    private static void localsAndJumps() {
        int[] kinds = {21, 22, 25, 54, 55, 58};
        int[] shortOnes = {26, 30, 42, 59, 63, 75};
        for (int k = 0; k < kinds.length; k++) {
            ClassFile file = new ClassFile().method("a", "()V", 1, 24, shortOnes[k], shortOnes[k] + 1, shortOnes[k] + 2,
                shortOnes[k] + 3, kinds[k], 4, kinds[k], 22, 196, kinds[k], 0, 6, 196, kinds[k], 0, 22, 177);
            FileRules rules = Trays.of(file.toBytes());
            int[] locals = {0, 1, 2, 3, 4, 22, 6, 22};
            for (int i = 0; i < locals.length; i++) {
                due(rules, i, kinds[k], locals[i]);
            }
            due(rules, 8, 177, 0);
        }
        FileRules grown = Trays.of(new ClassFile().method("a", "()V", 1, 24, 132, 7, 255, 196, 132, 0, 23, 1, 2, 177).toBytes());
        due(grown, 0, 132, 7);
        due(grown, 1, 132, 23);
        due(grown, 2, 177, 0);

        for (int number : new int[] {153, 154, 155, 156, 157, 158, 159, 160, 161, 162, 163, 164, 165, 166, 167, 198, 199}) {
            // 0: push, 2: the jump, 5: push, 7: the jump back, 10: far goto, 15: return
            ClassFile file = new ClassFile().method("a", "()V", 1, 1, 16, 1, number, 0, 13, 16, 1, number, 255, 251,
                200, 255, 255, 255, 246, 177);
            FileRules rules = Trays.of(file.toBytes());
            due(rules, 1, number, 5);
            due(rules, 3, number, 1);
            due(rules, 4, 167, 0);
            CHECK.due("target of a jump", rules.target(0, 1, 0), -1);
        }
    }

    private static void plainInstructions() {
        int[] numbers = {0, 1, 46, 79, 87, 88, 89, 90, 92, 95, 96, 97, 100, 101, 104, 105, 108, 109, 112, 113, 116, 117,
            120, 121, 122, 123, 124, 125, 126, 127, 128, 129, 130, 131, 133, 136, 145, 146, 147, 148, 190, 191,
            172, 173, 176, 177};
        FileRules rules = Trays.of(new ClassFile().method("a", "()V", 1, 1, numbers).toBytes());
        for (int i = 0; i < numbers.length; i++) {
            due(rules, i, numbers[i], 0);
        }
        rules = Trays.of(new ClassFile().method("a", "()V", 1, 1, 3, 188, 10, 177).toBytes());
        due(rules, 1, 188, 0);
        due(rules, 2, 177, 0);
    }

    private static void membersByNumber() {
        ClassFile file = new ClassFile();
        int c = file.methodOf("c", "(I)V");
        int y = file.fieldOf("y", "J");
        int a = file.methodOf("a", "()V");
        int x = file.fieldOf("x", "I");
        file.field("x", "I").field("y", "J").method("a", "()V", 2, 2, 178, 0, y, 179, 0, x, 178, 0, x, 179, 0, y,
            184, 0, c, 184, 0, a, 177);
        file.method("b", "()V", 0, 0, 177).method("c", "(I)V", 2, 1, 178, 0, y, 184, 0, a, 177);
        FileRules rules = Trays.of(file.toBytes());
        due(rules, 0, 178, 1);
        due(rules, 1, 179, 0);
        due(rules, 2, 178, 0);
        due(rules, 3, 179, 1);
        due(rules, 4, 184, 2);
        due(rules, 5, 184, 0);
        CHECK.due("code(2, 0)", rules.code(2, 0), 178);
        CHECK.due("first(2, 0)", rules.first(2, 0), 1);
        CHECK.due("code(2, 1)", rules.code(2, 1), 184);
        CHECK.due("first(2, 1)", rules.first(2, 1), 0);
        CHECK.due("code(1, 1)", rules.code(1, 1), -1);
    }

    private static void switches() {
        // 0: nop, 1: table to 28, 0, 29, 1, then 28: nop, 29: return; -1, 28 and 0 are added to 1
        byte[] table = new ClassFile.Row().u1(0, 170, 9, 9).u4(27).u4(5).u4(7).u4(-1).u4(28).u4(0).u1(0, 177).toBytes();
        // 0: pairs to 29, 28, 0, then 28 to 32: nop, 33: return
        byte[] pairs = new ClassFile.Row().u1(171, 9, 9, 9).u4(29).u4(2).u4(-7).u4(28).u4(7).u4(0).u1(0, 0, 0, 0, 0, 177).toBytes();
        byte[] bare = new ClassFile.Row().u1(171, 0, 0, 0).u4(12).u4(0).u1(177).toBytes();
        ClassFile file = new ClassFile().method("a", "()V", ClassFile.body(1, 1, table))
            .method("b", "()V", ClassFile.body(1, 1, pairs));
        FileRules rules = Trays.of(file.toBytes());
        targets(rules, 0, 1, 170, 2, 0, 3, 1);
        targets(rules, 1, 0, 171, 2, 1, 0);
        CHECK.due("target of no switch", rules.target(0, 0, 0), -1);
        CHECK.due("target of no instruction", rules.target(0, 4, 0), -1);
        CHECK.due("target of no method", rules.target(2, 0, 0), -1);
        CHECK.due("target of method -1", rules.target(-1, 0, 0), -1);
        bare[7] = 0;
        rules = Trays.of(new ClassFile().method("a", "()V", ClassFile.body(1, 1, bare)).toBytes());
        targets(rules, 0, 0, 171, 0);

        ClassFile.Row large = new ClassFile.Row().u1(170, 0, 0, 0).u4(0).u4(MAX - 200).u4(MAX);
        for (int i = 0; i <= 200; i++) {
            large.u4(i == 200 ? 0 : 820 + i);
        }
        for (int i = 0; i < 200; i++) {
            large.u1(0);
        }
        rules = Trays.of(new ClassFile().method("a", "()V", ClassFile.body(1, 1, large.toBytes())).toBytes());
        int[] due = new int[202];
        for (int k = 1; k <= 200; k++) {
            due[k] = k;
        }
        targets(rules, 0, 0, 170, due);
    }

    private static void targets(FileRules rules, int m, int i, int code, int... due) {
        CHECK.due("code of a switch", rules.code(m, i), code);
        CHECK.due("first of a switch", rules.first(m, i), due[0]);
        for (int k = 0; k < due.length; k++) {
            CHECK.due("target(" + m + ", " + i + ", " + k + ")", rules.target(m, i, k), due[k]);
        }
        for (int k : new int[] {-1, due.length, due.length + 1, MIN, MAX}) {
            CHECK.due("target(" + m + ", " + i + ", " + k + ")", rules.target(m, i, k), -1);
        }
    }

    private static ClassFile first() {
        ClassFile file = new ClassFile();
        int k = file.fieldOf("y", "[I");
        return file.field("x", "J").field("y", "[I").method("a", "()I", 3, 4, 178, 0, k, 190, 172);
    }

    private static void stillFirst(String when, FileRules rules) {
        CHECK.due(when + " size(0)", rules.size(0), 2);
        CHECK.due(when + " size(1)", rules.size(1), 1);
        CHECK.due(when + " size(2)", rules.size(2), first().entries());
        CHECK.due(when + " field(0)", rules.field(0), 2);
        CHECK.due(when + " field(1)", rules.field(1), 4);
        CHECK.due(when + " field(2)", rules.field(2), -1);
        CHECK.due(when + " method(0, 0)", rules.method(0, 0), 3);
        CHECK.due(when + " method(0, 1)", rules.method(0, 1), 3);
        CHECK.due(when + " method(0, 2)", rules.method(0, 2), 4);
        CHECK.due(when + " method(0, 5)", rules.method(0, 5), 1);
        CHECK.due(when + " method(1, 0)", rules.method(1, 0), -1);
        CHECK.due(when + " code(0, 0)", rules.code(0, 0), 178);
        CHECK.due(when + " first(0, 0)", rules.first(0, 0), 1);
        CHECK.due(when + " code(0, 2)", rules.code(0, 2), 172);
        CHECK.due(when + " code(0, 3)", rules.code(0, 3), -1);
    }

    private static void brokenFilesChangeNothing() {
        FileRules rules = Trays.of(first().toBytes());
        stillFirst("at once", rules);
        ClassFile other = new ClassFile().field("z", "I").method("b", "(J)V", 9, 9, 0, 0, 0, 0, 177)
            .method("c", "()V", 7, 7, 177);
        byte[] file = other.toBytes();
        byte[][] broken = {Trays.with(file, 0, 0), Trays.cut(file, file.length - 1), Trays.with(file, other.tagPlace(1), 0),
            Trays.with(file, other.tagPlace(2) + 2, 0), Trays.with(file, other.fieldPlace(0), 1),
            Trays.with(file, other.bodyPlace(1), 1), Trays.with(file, other.codePlace(1), 255),
            Trays.with(file, other.codePlace(0) + 3, 21, 99), Trays.cut(file, file.length + 1), new byte[0]};
        int[] rules1 = {1, 2, 3, 6, 7, 13, 15, 16, 17, 2};
        for (int i = 0; i < broken.length; i++) {
            CHECK.due("read() of a broken file", Trays.read(rules, broken[i]), rules1[i]);
            stillFirst("behind rule " + rules1[i], rules);
        }
        Trays.feed(rules, file);
        stillFirst("while feeding", rules);
        rules.end(3);
        stillFirst("after end", rules);
    }

    private static void laterFilesTakeTheirPlace() {
        FileRules rules = Trays.of(first().toBytes());
        Trays.read(rules, new ClassFile().method("b", "(J)V", 9, 9, 0, 22, 1, 177).toBytes());
        CHECK.due("later size(0)", rules.size(0), 0);
        CHECK.due("later field(0)", rules.field(0), -1);
        CHECK.due("later method(0, 5)", rules.method(0, 5), 7);
        due(rules, 0, 0, 0);
        due(rules, 1, 22, 1);
        due(rules, 2, 177, 0);
        none(rules, 0, 3);
        Trays.read(rules, new ClassFile().toBytes());
        none(rules, 0, 0);
        CHECK.due("emptied size(1)", rules.size(1), 0);
        Trays.read(rules, first().toBytes());
        stillFirst("again", rules);
    }

    /** What stood in the pool of an earlier file, broken or not, is no entry of the next one. */
    private static void earlierFilesLeaveNothing() {
        ClassFile names = new ClassFile();
        while (names.entries() < 40) {
            names.name("()V");
        }
        byte[] full = names.toBytes();
        byte[] broken = Trays.cut(full, full.length + 1);

        ClassFile behind = new ClassFile();
        int half = behind.longOf(1) + 1;
        int entry = behind.classAt(half);
        ClassFile beyond = new ClassFile();
        int last = beyond.classAt(30);
        ClassFile pair = new ClassFile();
        int type = pair.methodOf("a", "(X");
        ClassFile links = new ClassFile();
        int x = links.fieldOf("x", "I");
        links.method("a", "()V", 1, 1, 178, 0, x, 177);
        for (byte[] earlier : new byte[][] {full, broken}) {
            for (int reads = 1; reads <= 3; reads++) {
                FileRules rules = new FileRules();
                for (int i = 0; i < reads; i++) {
                    Trays.read(rules, earlier);
                }
                CHECK.due("the second number of a long", Trays.read(rules, behind.toBytes()), 6);
                CHECK.due("its place", rules.place(), behind.tagPlace(entry));
                Trays.read(rules, earlier);
                CHECK.due("a number beyond the pool", Trays.read(rules, beyond.toBytes()), 6);
                CHECK.due("its place", rules.place(), beyond.tagPlace(last));
                Trays.read(rules, earlier);
                CHECK.due("a NAME that is no type", Trays.read(rules, pair.toBytes()), 10);
                CHECK.due("its place", rules.place(), pair.tagPlace(type));
            }
        }
        FileRules rules = Trays.of(first().toBytes());
        Trays.read(rules, first().toBytes());
        CHECK.due("a field that only the earlier file has", Trays.read(rules, links.toBytes()), 16);
        CHECK.due("its place", rules.place(), links.codePlace(0));
    }
}
