import java.util.Arrays;

/** Promises 4 to 11: a test for each sentence that names an edge, on both sides of it. */
public final class AnswerEdgesTest {
    private static final Check CHECK = new Check();
    private static final int MIN = Integer.MIN_VALUE;
    private static final int MAX = Integer.MAX_VALUE;

    public static void main(String[] args) {
        readEmptiesTheTray();
        readOfTheEmptyTray();
        placeIsOfTheLatestRead();
        sizesOfTheLeastAndTheLargestFile();
        sizesOfOtherNumbers();
        noBrokenFileChangesAnything();
        earlierPoolsLeaveNoEntry();
        typesOfNoneOneAndAllFields();
        numbersOfNoneOneAndAllMethods();
        theLargestNumbersOfAMethod();
        resultsOfMethods();
        instructionsOfTheShortestAndLongestCode();
        pushesOfInts();
        pushesOfLongs();
        loadsAndStores();
        gotosAndOtherNumbers();
        firstOfOthers();
        firstIsTheLocal();
        firstIsTheMember();
        firstIsTheInstructionOfTheJump();
        targetsOfTheSmallestAndLargestTable();
        targetsOfNoneOneAndMostPairs();
        targetsOfOthers();
        CHECK.finish();
    }

    private static FileRules reading(String type, int locals, byte[] code) {
        return Trays.of(new ClassFile().method("a", type, ClassFile.body(0, locals, code)).toBytes());
    }

    private static FileRules reading(int... code) {
        return reading("()V", 24, ClassFile.row(code));
    }

    private static void due(String what, FileRules rules, int i, int code, int first) {
        CHECK.due(what + ": code(0, " + i + ")", rules.code(0, i), code);
        CHECK.due(what + ": first(0, " + i + ")", rules.first(0, i), first);
    }

    private static void none(String what, FileRules rules, int m, int i) {
        CHECK.due(what + ": code(" + m + ", " + i + ")", rules.code(m, i), -1);
        CHECK.due(what + ": first(" + m + ", " + i + ")", rules.first(m, i), 0);
        CHECK.due(what + ": target(" + m + ", " + i + ", 0)", rules.target(m, i, 0), -1);
    }

    // Promise 4: the tray is read as a file, and is empty then: 0, or the rule that is broken.

    private static void readEmptiesTheTray() {
        byte[] whole = ClassFile.whole(100);
        for (int wrong : new int[] {-1, 0, 8, 10}) {
            FileRules rules = new FileRules();
            Trays.feed(rules, wrong < 0 ? whole : Trays.with(whole, wrong, 200));
            CHECK.due("all of it is read", rules.read() == 0, wrong < 0);
            CHECK.due("end(1) behind read()", rules.end(1), false);
            CHECK.due("end(0) behind read()", rules.end(0), true);
            CHECK.due("feed behind read()", rules.feed(0, 0, 0, 0, 0), 20);
        }
    }

    private static void readOfTheEmptyTray() {
        byte[] whole = ClassFile.whole(100);
        FileRules rules = Trays.of(whole);
        for (int i = 0; i < 2; i++) {
            CHECK.due("read() again", rules.read(), 2);
            CHECK.due("place() of it", rules.place(), 0);
            CHECK.due("size(2) of the latest whole file", rules.size(2), 7);
        }
        Trays.feed(rules, whole);
        rules.end(0);
        CHECK.due("read() behind end(0)", rules.read(), 2);
        CHECK.due("read() behind end(1)", Trays.read(rules, Trays.cut(whole, 1)), 2);
        CHECK.due("place() behind end(1)", rules.place(), 1);
    }

    // Promise 5: the latest read()'s place; -1 if it broke none, or there was none.

    private static void placeIsOfTheLatestRead() {
        byte[] whole = ClassFile.whole(100);
        FileRules rules = new FileRules();
        CHECK.due("place() before all", rules.place(), -1);
        Trays.feed(rules, whole);
        CHECK.due("place() before read()", rules.place(), -1);
        rules.read();
        CHECK.due("place() of a whole file", rules.place(), -1);
        Trays.read(rules, Trays.with(whole, 0, 0));
        CHECK.due("place() of a wrong byte 0", rules.place(), 0);
        rules.feed(0, 0, 0, 0, 0);
        rules.end(21);
        rules.end(0);
        CHECK.due("place() behind feed() and end()", rules.place(), 0);
        Trays.read(rules, Trays.with(whole, 7, 0));
        CHECK.due("place() of a wrong byte 7", rules.place(), 7);
        Trays.read(rules, Trays.cut(whole, 99));
        CHECK.due("place() at the file's end", rules.place(), 99);
        Trays.read(rules, whole);
        CHECK.due("place() of a whole file again", rules.place(), -1);
    }

    // Promise 6: how many fields (0), methods (1), the U2 of its pool (2); -1 for another number.

    private static void sizesOfTheLeastAndTheLargestFile() {
        byte[] least = new ClassFile.Row().u1(202, 254, 186, 190, 0, 0, 0, 49).u2(3).u1(1).u2(1).u1('x').u1(7).u2(1)
            .u2(33).u2(2).u2(2).u2(0).u2(0).u2(0).u2(0).toBytes();
        ClassFile most = new ClassFile();
        for (int i = 0; i < 24; i++) {
            most.field("f" + i, "I").method("m" + i, "()V", 0, 0, 177);
        }
        while (most.entries() < 500) {
            most.intOf(1);
        }
        int[][] due = {{0, 0, 3}, {24, 24, 500}};
        byte[][] files = {least, most.toBytes()};
        for (int i = 0; i < 2; i++) {
            FileRules rules = Trays.of(files[i]);
            CHECK.due("place()", rules.place(), -1);
            for (int what = 0; what < 3; what++) {
                CHECK.due("size(" + what + ")", rules.size(what), due[i][what]);
            }
        }
        FileRules rules = Trays.of(most.toBytes());
        Trays.read(rules, least);
        CHECK.due("no more fields", rules.field(0), -1);
        CHECK.due("no more methods", rules.method(0, 0), -1);
        none("no more methods", rules, 0, 0);
    }

    private static void sizesOfOtherNumbers() {
        FileRules rules = Trays.of(ClassFile.whole(100));
        for (int what : new int[] {MIN, -2, -1, 3, 4, 256, MAX}) {
            CHECK.due("size(" + what + ")", rules.size(what), -1);
        }
    }

    // One with a broken rule, behind it, changes nothing here nor below.

    private static ClassFile pattern(String field, String method, int last) {
        ClassFile file = new ClassFile();
        int x = file.fieldOf("x", field);
        byte[] code = new ClassFile.Row().u1(178, 0, x, 167, 0, 3, 170, 0).u4(last).u4(0).u4(0).u4(last).u1(177, 177).toBytes();
        int[][] catches = new int[last == 18 ? 1 : 2][];
        Arrays.fill(catches, new int[] {0, 3, 0, 0});
        return file.field("x", field).method("a", method, ClassFile.body(last, 9, code, catches));
    }

    private static long[] answers(FileRules rules) {
        long[] all = {rules.size(0), rules.size(1), rules.size(2), rules.field(0), rules.field(1), rules.method(0, 0),
            rules.method(0, 1), rules.method(0, 2), rules.method(0, 3), rules.method(0, 4), rules.method(0, 5), rules.method(1, 0),
            rules.code(0, 0), rules.code(0, 2), rules.first(0, 0), rules.first(0, 1), rules.first(0, 2), rules.target(0, 2, 0),
            rules.target(0, 2, 1), rules.target(0, 2, 2), rules.code(0, 4), rules.code(0, 5)};
        return all;
    }

    private static void noBrokenFileChangesAnything() {
        ClassFile first = pattern("J", "(I)J", 18);
        ClassFile second = pattern("[I", "(JJ)[I", 19);
        FileRules rules = Trays.of(first.toBytes());
        long[] before = answers(rules);
        long[] due = {1, 1, first.entries(), 2, -1, 5, 18, 9, 1, 1, 2, -1, 178, 170, 0, 2, 3, 3, 3, -1, 177, -1};
        CHECK.due("answers " + Arrays.toString(before), Arrays.equals(before, due), true);
        byte[] file = second.toBytes();
        int[][] faults = {{1, 3, 0}, {3, second.tagPlace(2), 99}, {4, second.tagPlace(1) + 2, 0}, {5, second.fieldsPlace(), 9},
            {6, second.tagPlace(2) + 2, 2}, {7, second.methodPlace(0), 1}, {8, second.classPlace() + 7, 1},
            {9, second.fieldPlace(0) + 3, 2},
            {10, second.methodPlace(0) + 5, 1}, {12, second.methodPlace(0) + 9, 1},
            {13, second.bodyPlace(0) + 3, 3},
            {14, file.length - 3, 9}, {15, second.codePlace(0) + 25, 255}, {16, second.codePlace(0) + 3 + 2, 4}};
        for (int[] fault : faults) {
            CHECK.due("a broken file", Trays.read(rules, Trays.with(file, fault[1], fault[2])), fault[0]);
            CHECK.due("answers behind rule " + fault[0], Arrays.equals(answers(rules), before), true);
        }
        CHECK.due("a cut file", Trays.read(rules, Trays.cut(file, file.length - 1)), 2);
        CHECK.due("answers behind rule 2", Arrays.equals(answers(rules), before), true);
        CHECK.due("a longer file", Trays.read(rules, Trays.cut(file, file.length + 1)), 17);
        CHECK.due("answers behind rule 17", Arrays.equals(answers(rules), before), true);
        ClassFile twice = pattern("[I", "(JJ)[I", 19).field("x", "I");
        CHECK.due("a file with a name twice", Trays.read(rules, twice.toBytes()), 11);
        CHECK.due("answers behind rule 11", Arrays.equals(answers(rules), before), true);
        Trays.feed(rules, file);
        CHECK.due("answers behind feed()", Arrays.equals(answers(rules), before), true);
        rules.end(0);
        CHECK.due("a whole file", Trays.read(rules, file), 0);
        long[] after = {1, 1, second.entries(), 4, -1, 5, 19, 9, 4, 2, 4, -1, 178, 170, 0, 2, 4, 4, 4, -1, 177, -1};
        CHECK.due("answers " + Arrays.toString(answers(rules)), Arrays.equals(answers(rules), after), true);
    }

    /** Behind the pool's last entry, and behind a long, stood NAMEs in the files before. */
    private static void earlierPoolsLeaveNoEntry() {
        ClassFile names = new ClassFile();
        while (names.entries() < 500) {
            names.name("x");
        }
        for (int before = 0; before <= 4; before++) {
            for (int step = -1; step <= 1; step++) {
                ClassFile file = new ClassFile();
                int far = file.longOf(1);
                int n = far + 3;
                int k = file.classAt(step == -1 ? far + 1 : step == 0 ? n : n + 1);
                FileRules rules = new FileRules();
                for (int i = 0; i < before; i++) {
                    Trays.read(rules, i == 1 ? Trays.cut(names.toBytes(), names.fieldsPlace()) : names.toBytes());
                }
                CHECK.due("n", file.entries(), n);
                CHECK.due("a CLASS that points to no entry", Trays.read(rules, file.toBytes()), 6);
                CHECK.due("its place", rules.place(), file.tagPlace(k));
            }
        }
    }

    // Promise 7: the type of its field k: 1 int, 2 long, 4 ints; -1 if there is none.

    private static void typesOfNoneOneAndAllFields() {
        String[] types = {"I", "J", "[I"};
        int[] due = {1, 2, 4};
        for (int count : new int[] {0, 1, 3, 24}) {
            ClassFile file = new ClassFile();
            for (int k = 0; k < count; k++) {
                file.field("f" + k, types[k % 3]);
            }
            FileRules rules = Trays.of(file.method("a", "()V", 0, 0, 177).toBytes());
            for (int k = 0; k < count; k++) {
                CHECK.due("field(" + k + ") of " + count, rules.field(k), due[k % 3]);
            }
            for (int k : new int[] {MIN, -1, count, count + 1, 25, MAX}) {
                CHECK.due("field(" + k + ") of " + count, rules.field(k), -1);
            }
        }
    }

    // Promise 8: of its method m ..; -1 for another number, or if there is none.

    private static void numbersOfNoneOneAndAllMethods() {
        for (int count : new int[] {0, 1, 2, 24}) {
            ClassFile file = new ClassFile().field("x", "I").field("y", "I");
            for (int m = 0; m < count; m++) {
                byte[] code = new byte[m + 1];
                file.method("m" + m, "(I)V", ClassFile.body(m, Math.max(m, 1), code));
            }
            FileRules rules = Trays.of(file.toBytes());
            for (int m = 0; m < count; m++) {
                int[] due = {m + 1, m, Math.max(m, 1), 1, 0, 7};
                for (int what = 0; what < 6; what++) {
                    CHECK.due("method(" + m + ", " + what + ")", rules.method(m, what), due[what]);
                }
                for (int what : new int[] {MIN, -1, 6, 7, MAX}) {
                    CHECK.due("method(" + m + ", " + what + ")", rules.method(m, what), -1);
                }
                CHECK.due("the last instruction", rules.code(m, m), 0);
                none("behind the last instruction", rules, m, m + 1);
            }
            for (int m : new int[] {MIN, -1, count, count + 1, 25, MAX}) {
                for (int what = -1; what <= 6; what++) {
                    CHECK.due("method(" + m + ", " + what + ") of " + count, rules.method(m, what), -1);
                }
                none("no method", rules, m, 0);
            }
        }
    }

    private static void theLargestNumbersOfAMethod() {
        int[][] catches = new int[16][];
        Arrays.fill(catches, new int[] {0, 1, 0, 0});
        ClassFile file = new ClassFile().method("a", "(JJJJ)V", ClassFile.body(24, 24, new byte[1200], catches))
            .method("b", "()V", ClassFile.body(0, 0, new byte[1]));
        FileRules rules = Trays.of(file.toBytes());
        int[] most = {1200, 24, 24, 8, 16, 7};
        int[] least = {1, 0, 0, 0, 0, 7};
        for (int what = 0; what < 6; what++) {
            CHECK.due("most of " + what, rules.method(0, what), most[what]);
            CHECK.due("least of " + what, rules.method(1, what), least[what]);
        }
    }

    private static void resultsOfMethods() {
        String[] types = {"I", "J", "[I", "V"};
        int[] due = {1, 2, 4, 7};
        for (int i = 0; i < types.length; i++) {
            for (String parameters : new String[] {"", "I", "J", "[I", "[IJI"}) {
                FileRules rules = reading("(" + parameters + ")" + types[i], 24, ClassFile.row(177));
                CHECK.due("result of (" + parameters + ")" + types[i], rules.method(0, 5), due[i]);
                int places = parameters.equals("[IJI") ? 4 : parameters.equals("J") ? 2 : parameters.isEmpty() ? 0 : 1;
                CHECK.due("places of " + parameters, rules.method(0, 3), places);
            }
        }
    }

    // Promise 9: instruction i of method m ..; -1 if there is none.

    private static void instructionsOfTheShortestAndLongestCode() {
        for (int length : new int[] {1, 2, 1199, 1200}) {
            byte[] code = new byte[length];
            code[length - 1] = (byte) 177;
            FileRules rules = reading("()V", 0, code);
            CHECK.due("the first of " + length, rules.code(0, 0), length == 1 ? 177 : 0);
            CHECK.due("the last of " + length, rules.code(0, length - 1), 177);
            for (int i : new int[] {MIN, -1, length, length + 1, 1201, MAX}) {
                none("none of " + length, rules, 0, i);
            }
        }
        FileRules wide = reading(16, 0, 17, 0, 0, 200, 0, 0, 0, 5, 177);
        CHECK.due("instructions, not bytes", wide.method(0, 0), 4);
        CHECK.due("the last of them", wide.code(0, 3), 177);
        none("behind the last of them", wide, 0, 4);
    }

    private static void pushesOfInts() {
        for (int number = 2; number <= 8; number++) {
            due("push " + (number - 3), reading(number), 0, 300, number - 3);
        }
        due("no push: 1", reading(1), 0, 1, 0);
        for (int value : new int[] {0, 1, 127, -128, -1}) {
            due("16 " + value, reading(16, value), 0, 300, value);
        }
        for (int value : new int[] {0, 127, 128, 255, 256, 32767, -32768, -1, -129}) {
            due("17 " + value, reading(17, value >> 8, value), 0, 300, value);
        }
        for (int value : new int[] {0, 1, -1, MIN, MAX, 0x12345678, 32768, -32769}) {
            ClassFile file = new ClassFile();
            int k = file.intOf(value);
            FileRules rules = Trays.of(file.method("a", "()V", 0, 0, 18, k, 19, 0, k).toBytes());
            due("18 " + value, rules, 0, 300, value);
            due("19 " + value, rules, 1, 300, value);
        }
    }

    private static void pushesOfLongs() {
        due("push 0", reading(9), 0, 301, 0);
        due("push 1", reading(10), 0, 301, 1);
        long[] values = {0, 1, -1, Long.MIN_VALUE, Long.MAX_VALUE, 1L << 31, 1L << 32, (1L << 32) - 1, -(1L << 31), 0x123456789ABCDEF0L};
        for (long value : values) {
            ClassFile file = new ClassFile();
            int k = file.longOf(value);
            due("20 " + value, Trays.of(file.method("a", "()V", 0, 0, 20, 0, k).toBytes()), 0, 301, (int) value);
        }
    }

    private static void loadsAndStores() {
        int[][] kinds = {{21, 26}, {22, 30}, {25, 42}, {54, 59}, {55, 63}, {58, 75}};
        for (int[] kind : kinds) {
            int highest = kind[0] == 22 || kind[0] == 55 ? 22 : 23;
            for (int local = 0; local < 4; local++) {
                due("short one", reading(kind[1] + local), 0, kind[0], local);
            }
            for (int local : new int[] {0, 3, 4, highest}) {
                due("with a byte", reading(kind[0], local), 0, kind[0], local);
                due("wide", reading(196, kind[0], 0, local), 0, kind[0], local);
            }
        }
    }

    private static void gotosAndOtherNumbers() {
        due("goto", reading(0, 167, 255, 255), 1, 167, 0);
        due("far goto", reading(0, 200, 255, 255, 255, 255), 1, 167, 0);
        int[] bare = {0, 1, 46, 79, 87, 88, 89, 90, 92, 95, 96, 97, 100, 101, 104, 105, 108, 109, 112, 113, 116, 117, 120, 131, 133,
            136, 145, 146, 147, 148, 172, 173, 176, 177, 190, 191};
        for (int number : bare) {
            due("number", reading(number), 0, number, 0);
        }
    }

    // Promise 10: its first number ..; 0 for others, or if there is none.

    private static void firstOfOthers() {
        due("new ints", reading(188, 10), 0, 188, 0);
        due("a return", reading(8, 177), 1, 177, 0);
        FileRules rules = reading(8, 26);
        for (int i : new int[] {MIN, -1, 2, 3, MAX}) {
            CHECK.due("first of none", rules.first(0, i), 0);
        }
        for (int m : new int[] {MIN, -1, 1, 24, MAX}) {
            CHECK.due("first of no method", rules.first(m, 0), 0);
        }
    }

    private static void firstIsTheLocal() {
        for (int local : new int[] {0, 1, 23}) {
            due("132", reading(132, local, 127), 0, 132, local);
            due("132 by less", reading(132, local, 128), 0, 132, local);
            due("wide 132", reading(196, 132, 0, local, 127, 255), 0, 132, local);
        }
    }

    private static void firstIsTheMember() {
        for (int member : new int[] {0, 1, 23}) {
            ClassFile file = new ClassFile();
            int x = file.fieldOf("x" + member, "J");
            int a = file.methodOf("a" + member, "()V");
            for (int i = 0; i < 24; i++) {
                file.field("x" + i, "J").method("a" + i, "()V", 0, 0, 178, 0, x, 179, 0, x, 184, 0, a);
            }
            FileRules rules = Trays.of(file.toBytes());
            int[] numbers = {178, 179, 184};
            for (int i = 0; i < 3; i++) {
                CHECK.due("code(23, " + i + ")", rules.code(23, i), numbers[i]);
                CHECK.due("first(23, " + i + ")", rules.first(23, i), member);
                due("member " + member, rules, i, numbers[i], member);
            }
        }
    }

    private static void firstIsTheInstructionOfTheJump() {
        int[] jumps = {153, 158, 159, 164, 165, 166, 167, 198, 199, 200};
        for (int number : jumps) {
            int length = number == 200 ? 5 : 3;
            int kind = number == 200 ? 167 : number;
            for (int to : new int[] {0, 1, length + 2, 1199}) {
                byte[] code = new byte[1200];
                ClassFile.Row row = new ClassFile.Row().u1(0, number);
                byte[] jump = (number == 200 ? row.u4(to - 1) : row.u2(to - 1)).toBytes();
                System.arraycopy(jump, 0, code, 0, jump.length);
                due(number + " to byte " + to, reading("()V", 0, code), 1, kind, to <= 1 ? to : to - length + 1);
            }
        }
        byte[] far = new byte[1200];
        far[1197] = (byte) 167;
        far[1198] = (byte) (-1197 >> 8);
        far[1199] = (byte) -1197;
        due("back to the first", reading("()V", 0, far), 1197, 167, 0);
    }

    // Promise 11: target k of a switch, in their order (0 the default); -1 if there is none.

    private static void targetsOfTheSmallestAndLargestTable() {
        for (int more : new int[] {0, 1, 200}) {
            for (int low : new int[] {0, -1, MIN, MAX - more}) {
                int head = 16 + 4 * (more + 1);
                ClassFile.Row row = new ClassFile.Row().u1(170, 0, 0, 0).u4(head).u4(low).u4(low + more);
                for (int k = 0; k <= more; k++) {
                    row.u4(k % 2 == 0 ? 0 : head + k);
                }
                FileRules rules = reading("()V", 0, row.all(new byte[more + 1]).toBytes());
                due("table of " + (more + 1), rules, 0, 170, 1);
                CHECK.due("target 0", rules.target(0, 0, 0), 1);
                for (int k = 0; k <= more; k++) {
                    CHECK.due("target " + (k + 1), rules.target(0, 0, k + 1), k % 2 == 0 ? 0 : k + 1);
                }
                for (int k : new int[] {MIN, -1, more + 2, more + 3, MAX}) {
                    CHECK.due("target " + k + " of " + (more + 1), rules.target(0, 0, k), -1);
                }
            }
        }
    }

    private static void targetsOfNoneOneAndMostPairs() {
        for (int count : new int[] {0, 1, 2, 148}) {
            ClassFile.Row row = new ClassFile.Row().u1(171, 0, 0, 0).u4(12 + 8 * count).u4(count);
            for (int k = 0; k < count; k++) {
                row.u4(k * 1000 - 7).u4(k % 2 == 0 ? 0 : 13 + 8 * count);
            }
            FileRules rules = reading("()V", 0, row.u1(0, 0, 177).toBytes());
            due(count + " pairs", rules, 0, 171, 1);
            CHECK.due("target 0", rules.target(0, 0, 0), 1);
            for (int k = 1; k <= count; k++) {
                CHECK.due("target " + k, rules.target(0, 0, k), k % 2 == 1 ? 0 : 2);
            }
            for (int k : new int[] {MIN, -1, count + 1, count + 2, MAX}) {
                CHECK.due("target " + k + " of " + count, rules.target(0, 0, k), -1);
            }
        }
    }

    private static void targetsOfOthers() {
        FileRules rules = reading(0, 167, 255, 255, 153, 0, 3, 177);
        for (int i = -1; i <= 5; i++) {
            for (int k : new int[] {MIN, -1, 0, 1, MAX}) {
                CHECK.due("target(0, " + i + ", " + k + ")", rules.target(0, i, k), -1);
                CHECK.due("target(1, " + i + ", " + k + ")", rules.target(1, i, k), -1);
                CHECK.due("target(-1, " + i + ", " + k + ")", rules.target(-1, i, k), -1);
            }
        }
    }
}
