/** Promises 4 and 5: rule 16. */
public final class LinksTest {
    private static final Check CHECK = new Check();

    public static void main(String[] args) {
        jumps();
        farJumps();
        switches();
        locals();
        entriesOfThePool();
        fields();
        methods();
        catches();
        caughtClasses();
        instructionsThenCatches();
        CHECK.finish();
    }

    private static ClassFile code(int locals, int... code) {
        return new ClassFile().method("a", "()V", 1, locals, code);
    }

    /** Well, or wrong at the instruction's place in the code. */
    private static void due(String what, ClassFile file, boolean well, int at) {
        CHECK.broken(what, file.toBytes(), well ? 0 : 16, well ? -1 : file.codePlace(0) + at);
    }

    private static void jumps() {
        int[] numbers = {153, 154, 155, 156, 157, 158, 159, 160, 161, 162, 163, 164, 165, 166, 167, 198, 199};
        for (int number : numbers) {
            for (int offset = -6; offset <= 8; offset++) {
                // 0: nop, 1: push with an operand, 3: the jump, 6: push with an operand, 8: return
                int to = 3 + offset;
                boolean well = to == 0 || to == 1 || to == 3 || to == 6 || to == 8;
                due(number + " to " + to, code(0, 0, 16, 177, number, offset >> 8 & 255, offset & 255, 16, 177, 177),
                    well, 3);
            }
            due(number + " far before", code(0, number, 128, 0, 177), false, 0);
            due(number + " far behind", code(0, number, 127, 255, 177), false, 0);
            due(number + " without sign it were well", code(0, 0, number, 0, 255), false, 1);
        }
        ClassFile two = new ClassFile().method("a", "()V", 0, 0, 167, 0, 9, 177).method("b", "()V", 0, 0, 177);
        due("a jump into the next method", two, false, 0);
    }

    private static void farJumps() {
        int[] good = {0, 5, -1, 6};
        int[] bad = {1, 4, 7, -2, 65536, 65541, Integer.MAX_VALUE, Integer.MIN_VALUE, Integer.MAX_VALUE - 1};
        for (int offset : good) {
            due("far goto by " + offset, far(offset), true, 1);
        }
        for (int offset : bad) {
            due("far goto by " + offset, far(offset), false, 1);
        }
    }

    private static ClassFile far(int offset) {
        byte[] code = new ClassFile.Row().u1(0, 200).u4(offset).u1(0, 177).toBytes();
        return new ClassFile().method("a", "()V", ClassFile.body(0, 0, code));
    }

    private static ClassFile table(int otherwise, int one, int two) {
        byte[] code = new ClassFile.Row().u1(3, 170, 0, 0).u4(otherwise).u4(-1).u4(0).u4(one).u4(two).u1(16, 0, 177).toBytes();
        return new ClassFile().method("a", "()V", ClassFile.body(0, 0, code));
    }

    private static ClassFile pairs(int otherwise, int one, int two) {
        byte[] code = new ClassFile.Row().u1(3, 171, 0, 0).u4(otherwise).u4(2)
            .u4(1).u4(one).u4(100).u4(two).u1(16, 0, 177).toBytes();
        return new ClassFile().method("a", "()V", ClassFile.body(0, 0, code));
    }

    private static void switches() {
        due("table", table(23, 25, -1), true, 1);
        due("table to itself", table(0, 0, 0), true, 1);
        due("pairs", pairs(27, 29, -1), true, 1);
        due("pairs to itself", pairs(0, 0, 0), true, 1);
        for (int bad : new int[] {1, 24, 26, 28, 30, 31, -2, Integer.MAX_VALUE, Integer.MIN_VALUE}) {
            due("table's default by " + bad, table(bad, 0, 0), false, 1);
            due("table's first by " + bad, table(0, bad, 0), false, 1);
            due("table's last by " + bad, table(0, 0, bad), false, 1);
            due("pairs' default by " + bad, pairs(bad, 0, 0), false, 1);
            due("pairs' first by " + bad, pairs(0, bad, 0), false, 1);
            due("pairs' last by " + bad, pairs(0, 0, bad), false, 1);
        }
        byte[] none = new ClassFile.Row().u1(3, 171, 0, 0).u4(12).u4(0).u1(177).toBytes();
        due("no pairs", new ClassFile().method("a", "()V", ClassFile.body(0, 0, none)), false, 1);
        none[7] = 11;
        due("no pairs, to the end", new ClassFile().method("a", "()V", ClassFile.body(0, 0, none)), true, 1);
    }

    private static void locals() {
        int[] plain = {21, 22, 25, 54, 55, 58};
        int[] shortOnes = {26, 30, 42, 59, 63, 75};
        for (int most = 0; most <= 6; most++) {
            for (int i = 0; i < plain.length; i++) {
                int places = plain[i] == 22 || plain[i] == 55 ? 2 : 1;
                for (int local = 0; local < 4; local++) {
                    due(shortOnes[i] + local + " of " + most, code(most, 0, shortOnes[i] + local, 177),
                        local + places <= most, 1);
                }
                for (int local = 0; local < 8; local++) {
                    due(plain[i] + " " + local + " of " + most, code(most, 0, plain[i], local, 177),
                        local + places <= most, 1);
                    due("wide " + plain[i] + " " + local + " of " + most, code(most, 0, 196, plain[i], 0, local, 177),
                        local + places <= most, 1);
                }
                due("wide " + plain[i] + " 256 of " + most, code(most, 0, 196, plain[i], 1, 0, 177), false, 1);
                due("wide " + plain[i] + " 65535 of " + most, code(most, 0, 196, plain[i], 255, 255, 177), false, 1);
                due(plain[i] + " 255 of " + most, code(most, 0, plain[i], 255, 177), false, 1);
            }
            for (int local = 0; local < 8; local++) {
                due("132 " + local + " of " + most, code(most, 0, 132, local, 200, 177), local < most, 1);
                due("wide 132 " + local + " of " + most, code(most, 0, 196, 132, 0, local, 9, 9, 177), local < most, 1);
            }
        }
        due("the last of 24", code(24, 21, 23, 177), true, 0);
        due("the last long of 24", code(24, 55, 22, 177), true, 0);
        due("a long at the last of 24", code(24, 55, 23, 177), false, 0);
    }

    private static void entriesOfThePool() {
        ClassFile told = new ClassFile();
        int number = told.intOf(5);
        int far = told.longOf(6);
        int field = told.fieldOf("x", "I");
        for (int entry : new int[] {0, 1, 2, number, far, far + 1, field, 250}) {
            for (int push : new int[] {18, 19, 20}) {
                ClassFile file = new ClassFile();
                file.intOf(5);
                file.longOf(6);
                file.fieldOf("x", "I");
                byte[] code = push == 18 ? ClassFile.row(0, 18, entry, 177) : ClassFile.row(0, push, 0, entry, 177);
                file.method("a", "()V", ClassFile.body(1, 1, code));
                due(push + " of entry " + entry, file, push == 20 ? entry == far : entry == number, 1);
            }
        }
        ClassFile high = new ClassFile();
        while (high.entries() < 300) {
            high.name("x");
        }
        int last = high.intOf(9);
        high.method("a", "()V", 1, 1, 19, last >> 8, last, 177);
        due("19 of entry 300", high, true, 0);
        ClassFile low = new ClassFile();
        low.method("a", "()V", 1, 1, 19, 255, 255, 177);
        due("19 beyond the pool", low, false, 0);
    }

    /** A file with the fields x and y and the methods a and b, where a has the instruction. */
    private static ClassFile members(int number, java.util.function.ToIntFunction<ClassFile> entry) {
        ClassFile file = new ClassFile();
        int k = entry.applyAsInt(file);
        file.field("x", "I").field("y", "J").method("a", "()V", 9, 9, 0, number, k >> 8, k, 177)
            .method("b", "(I)J", 9, 9, 9, 173);
        return file;
    }

    private static void fields() {
        for (int number : new int[] {178, 179}) {
            due(number + " x", members(number, f -> f.fieldOf("x", "I")), true, 1);
            due(number + " y", members(number, f -> f.fieldOf("y", "J")), true, 1);
            ClassFile early = new ClassFile(f -> {
                f.fieldAt(8, 2);
                f.pairAt(3, 4);
                f.name("x");
                f.name("I");
                f.name("zzz");
                f.name("zzz");
            });
            early.field("x", "I").method("a", "()V", 1, 1, number, 0, 1, 177);
            due(number + " of entry 1", early, true, 0);
            due(number + " x with another type", members(number, f -> f.fieldOf("x", "J")), false, 1);
            due(number + " no field", members(number, f -> f.fieldOf("z", "I")), false, 1);
            due(number + " a longer name", members(number, f -> f.fieldOf("xx", "I")), false, 1);
            due(number + " a method's name", members(number, f -> f.fieldOf("a", "I")), false, 1);
            due(number + " another class", members(number, f -> f.fieldAt(f.classOf("Other"), f.pairOf("x", "I"))), false, 1);
            due(number + " this class by name", members(number, f -> f.fieldAt(f.classOf("Main"), f.pairOf("x", "I"))), true, 1);
            due(number + " the class above", members(number, f -> f.fieldAt(4, f.pairOf("x", "I"))), false, 1);
            due(number + " a METHOD", members(number, f -> f.methodOf("b", "(I)J")), false, 1);
            due(number + " a PAIR", members(number, f -> f.pairOf("x", "I")), false, 1);
            due(number + " no entry", members(number, f -> 0), false, 1);
            due(number + " beyond the pool", members(number, f -> 60000), false, 1);
        }
    }

    private static void methods() {
        due("call b", members(184, f -> f.methodOf("b", "(I)J")), true, 1);
        due("call a itself", members(184, f -> f.methodOf("a", "()V")), true, 1);
        due("call b with another result", members(184, f -> f.methodOf("b", "(I)I")), false, 1);
        due("call b with other parameters", members(184, f -> f.methodOf("b", "(J)J")), false, 1);
        due("call no method", members(184, f -> f.methodOf("c", "(I)J")), false, 1);
        due("call of another class", members(184, f -> f.methodAt(f.classOf("Mainz"), f.pairOf("b", "(I)J"))), false, 1);
        due("call of this class by name", members(184, f -> f.methodAt(f.classOf("Main"), f.pairOf("b", "(I)J"))), true, 1);
        due("call a FIELD", members(184, f -> f.fieldOf("x", "I")), false, 1);
        due("call no entry", members(184, f -> 0), false, 1);
        due("call beyond the pool", members(184, f -> 65535), false, 1);
    }

    private static void catches() {
        // 0: nop, 1: push with an operand, 3: return; the end is 4.
        for (int from = 0; from <= 5; from++) {
            for (int to = 0; to <= 5; to++) {
                for (int at = 0; at <= 5; at++) {
                    boolean well = from != 2 && to != 2 && at != 2 && from < to && to <= 4 && at < 4;
                    ClassFile file = new ClassFile().method("a", "()V",
                        ClassFile.body(1, 1, ClassFile.row(0, 16, 0, 177), new int[] {0, 1, 3, 0}, new int[] {from, to, at, 0}));
                    due("catch " + from + " " + to + " " + at, file, well, 4 + 2 + 8);
                }
            }
        }
        for (int[] far : new int[][] {{65535, 4, 0, 0}, {0, 65535, 0, 0}, {0, 4, 65535, 0}, {0, 256, 0, 0}}) {
            ClassFile file = new ClassFile().method("a", "()V", ClassFile.body(1, 1, ClassFile.row(0, 16, 0, 177), far));
            due("a far catch", file, false, 4 + 2);
        }
    }

    private static ClassFile caught(ClassFile file, int entry) {
        return file.method("a", "()V", ClassFile.body(1, 1, ClassFile.row(177), new int[] {0, 1, 0, entry}));
    }

    private static void caughtClasses() {
        for (String name : new String[] {"DivideError", "NullError", "IndexError", "SizeError"}) {
            ClassFile file = new ClassFile();
            due(name, caught(file, file.classOf(name)), true, 3);
            file = new ClassFile();
            due("the NAME " + name, caught(file, file.name(name)), false, 3);
        }
        for (String name : new String[] {"Main", "Error", "divideError", "DivideErrors", "DivideErro", "NullErrox", "StackError"}) {
            ClassFile file = new ClassFile();
            due(name, caught(file, file.classOf(name)), false, 3);
        }
        due("no class", caught(new ClassFile(), 0), true, 3);
        due("this class", caught(new ClassFile(), 2), false, 3);
        due("beyond the pool", caught(new ClassFile(), 65535), false, 3);
    }

    private static void instructionsThenCatches() {
        int[] wrong = {0, 0, 0, 0};
        ClassFile file = new ClassFile().method("a", "()V", ClassFile.body(0, 0, ClassFile.row(177)))
            .method("b", "()V", ClassFile.body(0, 0, ClassFile.row(0, 26, 26), new int[] {0, 1, 0, 0}, wrong, wrong))
            .method("c", "()V", ClassFile.body(0, 0, ClassFile.row(26)));
        byte[] bytes = file.toBytes();
        int p = file.codePlace(1);
        CHECK.broken("the first wrong instruction", bytes, 16, p + 1);
        bytes = Trays.with(bytes, p + 1, 0);
        CHECK.broken("the second wrong instruction", bytes, 16, p + 2);
        bytes = Trays.with(bytes, p + 2, 0);
        CHECK.broken("the first wrong catch", bytes, 16, p + 3 + 2 + 8);
        bytes = Trays.with(bytes, p + 3 + 2 + 8 + 3, 1);
        CHECK.broken("the second wrong catch", bytes, 16, p + 3 + 2 + 16);
        bytes = Trays.with(bytes, p + 3 + 2 + 16 + 3, 3);
        CHECK.broken("the next method", bytes, 16, file.codePlace(2));
    }
}
