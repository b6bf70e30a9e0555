import java.util.Arrays;

/** Rules 13 to 16: a test for each sentence that names an edge, on both sides of it. */
public final class CodeEdgesTest {
    private static final Check CHECK = new Check();
    private static final int MIN = Integer.MIN_VALUE;
    private static final int MAX = Integer.MAX_VALUE;
    private static final int[] SHORT_JUMPS = {153, 154, 155, 156, 157, 158, 159, 160, 161, 162, 163, 164, 165, 166, 167, 198, 199};

    public static void main(String[] args) {
        mostStack();
        mostLocals();
        localsForTheParameters();
        lengthOfTheCode();
        countOfCatches();
        itemsToTheEndOfCode();
        attributesToTheEndOfCode();
        nothingBehindTheItems();
        bodiesFromTheLeft();
        numbersBesideTheInstructions();
        wholeInstructionsToTheEnd();
        newOfTen();
        wideOnes();
        fillingBytes();
        tableSizes();
        tableDifferencesWrapAround();
        tablesToTheEnd();
        pairCounts();
        pairsAreRising();
        pairsToTheEnd();
        shortJumps();
        jumpsOverAllOfTheCode();
        farJumps();
        targetsOfSwitches();
        locals();
        localsOfLongs();
        localsOfTwoBytes();
        entriesThatArePushed();
        entriesOfMembers();
        rangesOfCatches();
        rangesOfOneTwoAndAllInstructions();
        classesOfCatches();
        methodByMethod();
        CHECK.finish();
    }

    private static ClassFile file(int locals, byte[] code, int[]... catches) {
        return new ClassFile().method("a", "()V", ClassFile.body(0, locals, code, catches));
    }

    private static ClassFile file(int locals, int... code) {
        return file(locals, ClassFile.row(code));
    }

    private static void edge(String what, ClassFile file, boolean well, int rule, int place) {
        CHECK.broken(what, file.toBytes(), well ? 0 : rule, well ? -1 : place);
    }

    /** Well, or rule 15 or 16 is broken at the instruction that begins there. */
    private static void code(String what, ClassFile file, boolean well, int rule, int at) {
        edge(what, file, well, rule, file.codePlace(0) + at);
    }

    // Rule 13: MOST STACK and MOST LOCALS are at most 24, the latter not below the places of the parameters.

    private static void mostStack() {
        for (int most : new int[] {0, 1, 23, 24, 25, 255, 256, 32768, 65535}) {
            ClassFile file = new ClassFile().method("a", "()V", most, 0, 177);
            edge("MOST STACK " + most, file, most <= 24, 13, file.bodyPlace(0));
        }
    }

    private static void mostLocals() {
        for (int most : new int[] {0, 1, 23, 24, 25, 255, 256, 32768, 65535}) {
            ClassFile file = file(most, 177);
            edge("MOST LOCALS " + most, file, most <= 24, 13, file.bodyPlace(0) + 2);
        }
    }

    private static void localsForTheParameters() {
        String[] types = {"()V", "(I)V", "(J)V", "([I)V", "(IJ)V", "(JJJ)V", "(IIIIIIII)V", "(JJJJ)V", "([IJ[IJI)J"};
        int[] places = {0, 1, 2, 1, 3, 6, 8, 8, 7};
        for (int i = 0; i < types.length; i++) {
            for (int most = Math.max(places[i] - 2, 0); most <= places[i] + 1; most++) {
                ClassFile file = new ClassFile().method("a", types[i], 0, most, 177);
                edge(types[i] + " of " + most, file, most >= places[i], 13, file.bodyPlace(0) + 2);
            }
        }
        ClassFile second = new ClassFile().method("a", "(JJJJ)V", 0, 8, 177).method("b", "(I)V", 0, 0, 177);
        CHECK.broken("the places of the method's own parameters", second.toBytes(), 13, second.bodyPlace(1) + 2);
    }

    // n is 1 .. 1200, there are at most 16 catches (at the U2 or U4).

    private static void lengthOfTheCode() {
        for (int length : new int[] {0, 1, 2, 1199, 1200, 1201, 1202}) {
            ClassFile file = file(0, new byte[length]);
            edge("n is " + length, file, length >= 1 && length <= 1200, 13, file.bodyPlace(0) + 4);
        }
        ClassFile one = file(0, 177);
        int p = one.bodyPlace(0) + 4;
        for (int length : new int[] {0, 1201, 65536, 65537, 1 << 24 | 1, MAX, MIN, MIN + 1, -1}) {
            CHECK.broken("n is " + length, Trays.with(one.toBytes(), p, length >> 24, length >> 16, length >> 8, length), 13, p);
        }
        for (int length : new int[] {0, 1, 1200, 1201}) {
            boolean told = length >= 1 && length <= 1200;
            ClassFile last = bodyOf(new ClassFile.Row().u2(0).u2(0).u4(length).toBytes());
            CHECK.broken("n as the last item, " + length, last.toBytes(), told ? 14 : 13, last.bodyPlace(0) + (told ? 8 : 4));
        }
    }

    private static void countOfCatches() {
        for (int count : new int[] {0, 1, 15, 16, 17, 18}) {
            int[][] catches = new int[count][];
            Arrays.fill(catches, new int[] {0, 1, 0, 0});
            ClassFile file = file(0, ClassFile.row(177), catches);
            edge(count + " catches", file, count <= 16, 13, file.codePlace(0) + 1);
        }
        ClassFile none = file(0, 177);
        int p = none.codePlace(0) + 1;
        for (int count : new int[] {17, 256, 8192, 32768, 65535}) {
            CHECK.broken(count + " catches", Trays.with(none.toBytes(), p, count >> 8, count), 13, p);
        }
        CHECK.broken("16 catches that are not there", Trays.with(none.toBytes(), p, 0, 16), 14, p + 4);
    }

    // Rule 14: no item goes beyond Code (at its end), and nothing stands behind its items (there).

    private static ClassFile bodyOf(byte[] body) {
        return new ClassFile().method("a", "()V", body);
    }

    private static void itemsToTheEndOfCode() {
        byte[] bare = ClassFile.body(1, 2, ClassFile.row(0, 177), new int[] {0, 1, 0, 0});
        byte[] whole = new ClassFile.Row().all(Arrays.copyOf(bare, bare.length - 2))
            .all(ClassFile.attributes(ClassFile.attribute(0, ClassFile.row(9, 9)))).toBytes();
        for (int length = 0; length <= whole.length; length++) {
            ClassFile file = bodyOf(Arrays.copyOf(whole, length));
            edge("Code of " + length, file, length == whole.length, 14, file.bodyPlace(0) + length);
        }
    }

    private static void attributesToTheEndOfCode() {
        byte[] bare = ClassFile.body(0, 0, ClassFile.row(177));
        byte[] body = new ClassFile.Row().all(Arrays.copyOf(bare, bare.length - 2))
            .all(ClassFile.attributes(ClassFile.attribute(0, ClassFile.row(1, 2, 3)))).toBytes();
        ClassFile file = bodyOf(body);
        int end = file.bodyPlace(0) + body.length;
        byte[] bytes = file.toBytes();
        CHECK.whole("an attribute to the end of Code", bytes);
        for (int length : new int[] {4, 5, 256, 65536, MAX, MIN, MIN + 3, -6, -1}) {
            CHECK.broken("an attribute of " + length, Trays.with(bytes, end - 7, length >> 24, length >> 16, length >> 8, length), 14, end);
        }
        CHECK.broken("an attribute of 2", Trays.with(bytes, end - 4, 2), 14, end - 1);
        CHECK.broken("two attributes", Trays.with(bytes, end - 10, 2), 14, end);
        CHECK.broken("no attribute", Trays.with(bytes, end - 10, 0), 14, end - 9);
        CHECK.broken("65535 attributes", Trays.with(bytes, end - 11, 255, 255), 14, end);
    }

    private static void nothingBehindTheItems() {
        byte[] body = ClassFile.body(0, 0, ClassFile.row(177));
        for (int more = 0; more <= 3; more++) {
            ClassFile file = bodyOf(Arrays.copyOf(body, body.length + more));
            edge(more + " behind", file, more == 0, 14, file.bodyPlace(0) + body.length);
        }
    }

    // For each method in order, from the left, 13 and 14.

    private static void bodiesFromTheLeft() {
        byte[] good = ClassFile.body(0, 0, ClassFile.row(177));
        ClassFile last = new ClassFile().method("a", "()V", good).method("b", "()V", 25, 0, 177);
        CHECK.broken("the last method", last.toBytes(), 13, last.bodyPlace(1));
        ClassFile file = new ClassFile().method("a", "()V", good).method("b", "()V", Arrays.copyOf(good, good.length + 1))
            .method("c", "()V", 25, 0, 177);
        byte[] all = file.toBytes();
        CHECK.broken("a byte behind b before MOST STACK of c", all, 14, file.bodyPlace(1) + good.length);
        for (int m = 1; m >= 0; m--) {
            int p = file.bodyPlace(m);
            int[][] faults = {{p + 9, 17}, {p + 4, 0}, {p + 2, 25}, {p, 25}};
            for (int[] fault : faults) {
                int low = fault[0] == p + 4 ? fault[0] + 3 : fault[0] + 1;
                all = Trays.with(all, low, fault[1]);
                CHECK.broken("place " + (fault[0] - p) + " of " + m + " and those behind it", all, 13, fault[0]);
            }
        }
        ClassFile later = new ClassFile().method("a", "()V", 0, 0, 255).method("b", "()V", 25, 0, 177);
        CHECK.broken("rule 13 of all methods before 15", later.toBytes(), 13, later.bodyPlace(1));
    }

    // Rule 15: CODE is a row of whole INSTRUCTIONS as told in 2 (at the first byte of the first that is not).

    /** The numbers right beside those that are told. */
    private static void numbersBesideTheInstructions() {
        int[] beside = {11, 15, 23, 24, 34, 41, 47, 53, 56, 57, 67, 74, 80, 86, 91, 93, 94, 98, 99, 102, 103, 106, 107, 110,
            111, 114, 115, 118, 119, 134, 135, 137, 144, 149, 152, 168, 169, 174, 175, 180, 183, 185, 187, 189, 192, 195,
            197, 201, 202, 255};
        for (int number : beside) {
            code("number " + number, file(24, 0, number, 0, 0, 0, 0, 0, 177), false, 15, 1);
            code("number " + number + " at the end", file(24, 0, number), false, 15, 1);
        }
    }

    private static void wholeInstructionsToTheEnd() {
        int[][] whole = {{16, 255}, {17, 255, 255}, {21, 0}, {22, 0}, {25, 0}, {54, 0}, {55, 0}, {58, 0}, {132, 0, 255},
            {153, 255, 255}, {166, 255, 255}, {167, 255, 255}, {198, 255, 255}, {199, 255, 255}, {200, 255, 255, 255, 255},
            {188, 10}, {196, 21, 0, 0}, {196, 55, 0, 0}, {196, 132, 0, 0, 255, 255}};
        for (int[] one : whole) {
            int[] row = new int[one.length + 1];
            System.arraycopy(one, 0, row, 1, one.length);
            code("all of " + one[0], file(24, row), true, 15, 1);
            for (int length = 1; length < one.length; length++) {
                code(length + " of " + one[0], file(24, Arrays.copyOf(row, length + 1)), false, 15, 1);
            }
        }
        for (int number : new int[] {18, 19, 20, 178, 179, 184}) {
            int length = number == 18 ? 2 : 3;
            int[] row = {0, number, 0, 0};
            for (int cut = 1; cut <= length; cut++) {
                code(cut + " of " + number, file(24, Arrays.copyOf(row, cut + 1)), false, cut == length ? 16 : 15, 1);
            }
        }
    }

    private static void newOfTen() {
        for (int sort : new int[] {0, 9, 10, 11, 138, 255}) {
            code("new of " + sort, file(0, 0, 188, sort), sort == 10, 15, 1);
        }
    }

    private static void wideOnes() {
        int[] told = {21, 22, 25, 54, 55, 58};
        for (int number = 0; number < 256; number++) {
            int kind = number;
            boolean local = Arrays.stream(told).anyMatch(one -> one == kind);
            code("wide " + number, file(24, 0, 196, number, 0, 0), local, 15, 1);
            code("wide " + number + " and two bytes", file(24, 0, 196, number, 0, 0, 0, 0), local || number == 132, 15, 1);
        }
        code("wide alone", file(24, 0, 196), false, 15, 1);
    }

    // The same 0 to 3 bytes: to a multiple of 4 from the code's beginning, they may be anything.

    private static void fillingBytes() {
        for (int before = 0; before <= 8; before++) {
            for (int number : new int[] {170, 171}) {
                ClassFile.Row row = new ClassFile.Row().all(new byte[before]).u1(number);
                while (row.length() % 4 != 0) {
                    row.u1(255 - row.length());
                }
                row.u4(0).u4(number == 170 ? -7 : 1).u4(-7).u4(0);
                code(number + " behind " + before, file(0, row.toBytes()), true, 15, before);
                code("cut " + number + " behind " + before, file(0, Arrays.copyOf(row.toBytes(), row.length() - 1)), false, 15, before);
                CHECK.due("instructions", Trays.of(file(0, row.toBytes()).toBytes()).method(0, 0), before + 1);
            }
        }
    }

    // 170: high - low is 0 .. 200.

    private static ClassFile table(int low, int high, int offsets) {
        byte[] head = new ClassFile.Row().u1(170, 1, 2, 3).u4(0).u4(low).u4(high).toBytes();
        return file(0, Arrays.copyOf(head, head.length + 4 * offsets));
    }

    private static void tableSizes() {
        for (int low : new int[] {0, 1, -1, -100, -200, -201, 5, MIN, MAX - 201}) {
            for (int more : new int[] {0, 1, 199, 200, 201}) {
                boolean well = more <= 200;
                code("table from " + low + " by " + more, table(low, low + more, more + 1), well, 15, 0);
            }
            if (low != MIN) {
                code("table from " + low + " down by 1", table(low, low - 1, 0), false, 15, 0);
                code("table from " + low + " down by 1 with room", table(low, low - 1, 250), false, 15, 0);
            }
        }
        code("table to the highest int", table(MAX - 200, MAX, 201), true, 15, 0);
        code("table of the highest int", table(MAX, MAX, 1), true, 15, 0);
        code("table of the lowest int", table(MIN, MIN, 1), true, 15, 0);
    }

    private static void tableDifferencesWrapAround() {
        int[][] bad = {{MAX, MIN}, {MAX, MIN + 199}, {MAX - 100, MIN + 99}, {MIN, MAX}, {MIN, 0}, {0, MAX}, {-1, MAX}, {1, MIN},
            {MAX, -1}, {MIN, -1}, {0, MIN}};
        for (int[] two : bad) {
            code("table " + two[0] + " " + two[1], table(two[0], two[1], 250), false, 15, 0);
        }
    }

    private static void tablesToTheEnd() {
        for (int more : new int[] {0, 1, 200}) {
            ClassFile.Row row = new ClassFile.Row().u1(170, 0, 0, 0).u4(0).u4(7).u4(7 + more).all(new byte[4 * (more + 1)]);
            for (int length = 1; length <= row.length(); length++) {
                code("a table's first " + length, file(0, Arrays.copyOf(row.toBytes(), length)), length == row.length(), 15, 0);
            }
        }
    }

    // 171: n (0 .. 200), n pairs of a number (rising) and an offset. 1200 bytes hold 148 of them.

    private static ClassFile.Row pairs(int count, int... numbers) {
        ClassFile.Row row = new ClassFile.Row().u1(171, 1, 2, 3).u4(0).u4(count);
        for (int number : numbers) {
            row.u4(number).u4(0);
        }
        return row;
    }

    private static int[] rising(int count) {
        int[] numbers = new int[count];
        Arrays.setAll(numbers, i -> i - 5);
        return numbers;
    }

    private static void pairCounts() {
        for (int count : new int[] {0, 1, 2, 147, 148}) {
            code(count + " pairs", file(0, pairs(count, rising(count)).toBytes()), true, 15, 0);
        }
        for (int count : new int[] {-1, 149, 200, 201, 1 << 16, 1 << 29, 1 << 30, MAX, MIN, MIN + 1}) {
            code("the count " + count + " before 148 pairs", file(0, pairs(count, rising(148)).toBytes()), false, 15, 0);
            code("the count " + count + " alone", file(0, pairs(count).toBytes()), false, 15, 0);
        }
    }

    private static void pairsAreRising() {
        int[][] good = {{1, 2}, {-1, 0}, {MIN, MAX}, {MIN, MIN + 1}, {MAX - 1, MAX}, {-2, -1}, {MIN, -1, 0, MAX}, {1, 256}, {MIN, 0}};
        for (int[] numbers : good) {
            code(Arrays.toString(numbers), file(0, pairs(numbers.length, numbers).toBytes()), true, 15, 0);
        }
        int[][] bad = {{1, 1}, {2, 1}, {0, -1}, {MAX, MIN}, {0, MIN}, {MAX, -1}, {MIN, MIN}, {MAX, MAX}, {1, 2, 2}, {1, 1, 2}, {1, 3, 2},
            {2, 1, 3}, {256, 1}};
        for (int[] numbers : bad) {
            code(Arrays.toString(numbers), file(0, pairs(numbers.length, numbers).toBytes()), false, 15, 0);
        }
        int[] last = rising(148);
        last[147] = last[146];
        code("the last of 148 pairs", file(0, pairs(148, last).toBytes()), false, 15, 0);
    }

    private static void pairsToTheEnd() {
        for (int count : new int[] {0, 1, 2}) {
            byte[] whole = pairs(count, rising(count)).toBytes();
            for (int length = 1; length <= whole.length; length++) {
                code(length + " of " + count + " pairs", file(0, Arrays.copyOf(whole, length)), length == whole.length, 15, 0);
            }
        }
    }

    // Rule 16: jumps go to instructions.

    private static void shortJumps() {
        for (int number : SHORT_JUMPS) {
            // 0: nop, 1: push with an operand, 3: the jump, 6: push with an operand, 8: return; the end is 9.
            for (int to = -2; to <= 11; to++) {
                boolean well = to == 0 || to == 1 || to == 3 || to == 6 || to == 8;
                int offset = to - 3;
                code(number + " to " + to, file(0, 0, 16, 0, number, offset >> 8, offset, 16, 0, 177), well, 16, 3);
            }
            for (int offset : new int[] {-32768, -32767, -256, 255, 256, 32767}) {
                code(number + " by " + offset, file(0, 0, 16, 0, number, offset >> 8, offset, 16, 0, 177), false, 16, 3);
            }
        }
    }

    private static void jumpsOverAllOfTheCode() {
        for (int number : new int[] {153, 167, 199, 200}) {
            int length = number == 200 ? 5 : 3;
            for (int to : new int[] {1199, 1200}) {
                byte[] code = new byte[1200];
                jump(code, 0, number, to);
                code(number + " forward to " + to, file(0, code), to < 1200, 16, 0);
            }
            for (int to : new int[] {0, -1}) {
                byte[] code = new byte[1200];
                jump(code, 1200 - length, number, to - (1200 - length));
                code(number + " back to " + to, file(0, code), to >= 0, 16, 1200 - length);
            }
        }
    }

    private static void jump(byte[] code, int p, int number, int offset) {
        ClassFile.Row row = new ClassFile.Row().u1(number);
        byte[] one = number == 200 ? row.u4(offset).toBytes() : row.u2(offset).toBytes();
        System.arraycopy(one, 0, code, p, one.length);
    }

    private static void farJumps() {
        for (int offset : new int[] {-1, 0, 5, 7, -2, 1, 4, 6, 8, 65536, 65541, -65536, 1 << 24, MAX, MAX - 1, MIN, MIN + 1}) {
            // 0: nop, 1: the jump, 6: push with an operand, 8: return; the end is 9.
            boolean well = offset == -1 || offset == 0 || offset == 5 || offset == 7;
            byte[] code = new ClassFile.Row().u1(0, 200).u4(offset).u1(16, 0, 177).toBytes();
            code("far goto by " + offset, file(0, code), well, 16, 1);
        }
    }

    private static void targetsOfSwitches() {
        for (int to : new int[] {0, 1, 24, 26, -1, 2, 3, 4, 23, 25, 27, 28, 65537, MAX, MIN}) {
            boolean well = to == 0 || to == 1 || to == 24 || to == 26;
            for (int which = 0; which < 3; which++) {
                int[] offsets = {0, 0, 0};
                // An offset is added to the switch's own place: what lies too high for it wraps around.
                offsets[which] = to - 1;
                byte[] table = new ClassFile.Row().u1(0, 170, 0, 0).u4(offsets[0]).u4(7).u4(8).u4(offsets[1]).u4(offsets[2])
                    .u1(16, 0, 177).toBytes();
                code("target " + which + " of a table to " + to, file(0, table), well, 16, 1);
                byte[] pairs = new ClassFile.Row().u1(0, 171, 0, 0).u4(offsets[0]).u4(2).u4(0).u4(offsets[1]).u4(8).u4(offsets[2])
                    .u1(16, 0, 177).toBytes();
                boolean behind = to == 28;
                boolean inside = to == 24 || to == 26;
                code("target " + which + " of pairs to " + to, file(0, pairs), well && !inside || behind, 16, 1);
            }
        }
    }

    // Locals are below MOST LOCALS (of a long its second place too).

    private static final int[][] ONE_PLACE = {{21, 26}, {25, 42}, {54, 59}, {58, 75}};
    private static final int[][] TWO_PLACES = {{22, 30}, {55, 63}};

    private static void locals(int[][] kinds, int places) {
        for (int[] kind : kinds) {
            for (int most : new int[] {0, 1, 2, 3, 4, 5, 23, 24}) {
                for (int local = Math.max(most - 3, 0); local <= most + 1; local++) {
                    boolean well = local + places <= most;
                    code(kind[0] + " " + local + " of " + most, file(most, 0, kind[0], local), well, 16, 1);
                    code("wide " + kind[0] + " " + local + " of " + most, file(most, 0, 196, kind[0], 0, local), well, 16, 1);
                    if (local < 4) {
                        code(kind[1] + local + " of " + most, file(most, 0, kind[1] + local), well, 16, 1);
                    }
                }
            }
        }
    }

    private static void locals() {
        locals(ONE_PLACE, 1);
        for (int most : new int[] {0, 1, 24}) {
            for (int local = Math.max(most - 1, 0); local <= most + 1; local++) {
                code("132 " + local + " of " + most, file(most, 0, 132, local, 128), local < most, 16, 1);
                code("wide 132 " + local + " of " + most, file(most, 0, 196, 132, 0, local, 128, 0), local < most, 16, 1);
            }
        }
    }

    private static void localsOfLongs() {
        locals(TWO_PLACES, 2);
    }

    private static void localsOfTwoBytes() {
        for (int number : new int[] {21, 22, 25, 54, 55, 58}) {
            for (int local : new int[] {255, 128, 127}) {
                code(number + " " + local, file(24, 0, number, local), false, 16, 1);
            }
            for (int local : new int[] {255, 256, 32767, 32768, 65534, 65535}) {
                code("wide " + number + " " + local, file(24, 0, 196, number, local >> 8, local), false, 16, 1);
            }
        }
        for (int local : new int[] {255, 256, 32768, 65535}) {
            code("wide 132 " + local, file(24, 0, 196, 132, local >> 8, local, 0, 0), false, 16, 1);
        }
        code("132 255", file(24, 0, 132, 255, 0), false, 16, 1);
    }

    // 18 19 20 tell their sort.

    private static void entriesThatArePushed() {
        for (int place = 0; place < 2; place++) {
            boolean first = place == 0;
            ClassFile ints = new ClassFile(before -> {
                if (first) {
                    before.intOf(5);
                }
            });
            int far = ints.longOf(7);
            int name = ints.name("x");
            ints.name("a");
            int other = ints.name("()V");
            int last = ints.intOf(6);
            int[] wrong = {0, far, far + 1, name, last + 1, 255};
            for (int number : new int[] {18, 19}) {
                pushed(ints, number, first ? 1 : last, true, other);
                pushed(ints, number, last, true, other);
                for (int entry : wrong) {
                    pushed(ints, number, entry, false, other);
                }
            }
            for (int entry : new int[] {256, 32768, 65535, 256 + last}) {
                pushed(ints, 19, entry, false, other);
                pushed(ints, 20, entry, false, other);
            }
            for (int entry : new int[] {0, 1, far + 1, last, last + 1}) {
                pushed(ints, 20, entry, false, other);
            }
            pushed(ints, 20, far, true, other);
        }
        ClassFile longs = new ClassFile(before -> before.longOf(1));
        longs.name("a");
        int type = longs.name("()V");
        int last = longs.longOf(2);
        pushed(longs, 20, 1, true, type);
        pushed(longs, 20, 2, false, type);
        pushed(longs, 20, last, true, type);
        pushed(longs, 20, last + 1, false, type);
        pushed(longs, 20, last + 2, false, type);
    }

    /** The file's pool with one method, whose type is that entry and whose name is the one before it. */
    private static void pushed(ClassFile pool, int number, int entry, boolean well, int type) {
        byte[] code = number == 18 ? ClassFile.row(0, 18, entry) : ClassFile.row(0, number, entry >> 8, entry);
        byte[] body = ClassFile.body(0, 0, code);
        ClassFile file = pool.copy().methodWith(type - 1, type, ClassFile.attribute(pool.codeName, body));
        code(number + " of entry " + entry, file, well, 16, 1);
    }

    // 178 179 184 a FIELD or METHOD whose CLASS is this one's (by name) and which it has, with that type.

    private static void entriesOfMembers() {
        ClassFile pool = new ClassFile(before -> {
            before.fieldAt(3, 4);
            before.methodAt(3, 5);
            before.classAt(6);
            before.pairAt(7, 8);
            before.pairAt(9, 10);
            before.name("Main");
            before.name("x");
            before.name("I");
            before.name("a");
            before.name("()V");
        });
        int otherOwner = pool.fieldAt(pool.classOf("Mai"), 4);
        int longerOwner = pool.fieldAt(pool.classOf("Mainy"), 4);
        int otherName = pool.fieldOf("y", "I");
        int otherType = pool.fieldOf("x", "J");
        int otherResult = pool.methodOf("a", "()I");
        int otherParameters = pool.methodOf("a", "(I)V");
        int otherMethod = pool.methodOf("x", "()V");
        int ownMethod = pool.methodOf("a", "()V");
        int ownField = pool.fieldOf("x", "I");
        int n = pool.entries();
        int[] all = {0, 1, 2, 3, 4, 5, 7, otherOwner, longerOwner, otherName, otherType, otherResult, otherParameters,
            otherMethod, ownMethod, ownField, n, n + 1, 256 + 1, 32768, 65535};
        for (int number : new int[] {178, 179, 184}) {
            for (int entry : all) {
                boolean well = number == 184 ? entry == 2 || entry == ownMethod : entry == 1 || entry == ownField;
                byte[] body = ClassFile.body(0, 0, ClassFile.row(0, number, entry >> 8, entry));
                ClassFile file = pool.copy().field(7, 8).methodWith(9, 10, ClassFile.attribute(pool.codeName, body));
                code(number + " of entry " + entry, file, well, 16, 1);
            }
        }
    }

    // A catch: from, to, at are instructions (to perhaps the end), from below to.

    private static void rangesOfCatches() {
        // 0: push with an operand, 2: nop, 3: push with an operand; the end is 5.
        int[] values = {0, 1, 2, 3, 4, 5, 6, 256, 32768, 65535};
        for (int from : values) {
            for (int to : values) {
                for (int at : values) {
                    boolean starts = from == 0 || from == 2 || from == 3;
                    boolean ends = to == 2 || to == 3 || to == 5;
                    boolean handles = at == 0 || at == 2 || at == 3;
                    ClassFile file = file(0, ClassFile.row(16, 0, 0, 16, 0), new int[] {from, to, at, 0});
                    code("catch " + from + " " + to + " " + at, file, starts && ends && handles && from < to, 16, 5 + 2);
                }
            }
        }
    }

    private static void rangesOfOneTwoAndAllInstructions() {
        for (int[] range : new int[][] {{0, 1200, 1199}, {1199, 1200, 0}, {0, 1, 0}, {1198, 1199, 1199}}) {
            byte[] code = new byte[1200];
            code("catch " + Arrays.toString(range), file(0, code, new int[] {range[0], range[1], range[2], 0}), true, 16, 1202);
            code("to is one more", file(0, code, new int[] {range[0], 1201, range[2], 0}), false, 16, 1202);
            code("at is the end", file(0, code, new int[] {range[0], range[1], 1200, 0}), false, 16, 1202);
            code("from is to", file(0, code, new int[] {range[1], range[1], range[2], 0}), false, 16, 1202);
        }
        int[][] last = new int[16][];
        Arrays.fill(last, new int[] {0, 1, 0, 0});
        code("16 catches", file(0, ClassFile.row(177), last), true, 16, 3);
        last[15] = new int[] {0, 2, 0, 0};
        code("the last of 16 catches", file(0, ClassFile.row(177), last), false, 16, 3 + 8 * 15);
    }

    // Its CLASS is 0 or one of the names DivideError, NullError, IndexError, SizeError.

    private static void classesOfCatches() {
        for (String name : new String[] {"DivideError", "NullError", "IndexError", "SizeError"}) {
            String[] others = {name + "s", name.substring(1), name.substring(0, name.length() - 1), name.toLowerCase(),
                "x" + name.substring(1), name.substring(0, name.length() - 1) + "x"};
            caught(name, true);
            for (String other : others) {
                caught(other, false);
            }
        }
        caught("Main", false);
        ClassFile first = new ClassFile(before -> {
            before.classAt(2);
            before.name("SizeError");
            before.longOf(1);
        });
        int last = first.classAt(2);
        first.method("a", "()V", ClassFile.body(0, 0, ClassFile.row(177), new int[] {0, 1, 0, 0}));
        int p = first.codePlace(0) + 3 + 6;
        for (int entry : new int[] {0, 1, last, 2, 3, 4, first.entries(), 256, 257, 32768, 65535}) {
            boolean well = entry == 0 || entry == 1 || entry == last;
            CHECK.broken("a catch of entry " + entry, Trays.with(first.toBytes(), p, entry >> 8, entry), well ? 0 : 16, well ? -1 : p - 6);
        }
    }

    private static void caught(String name, boolean well) {
        ClassFile file = new ClassFile();
        int entry = file.classOf(name);
        file.method("a", "()V", ClassFile.body(0, 0, ClassFile.row(177), new int[] {0, 1, 0, entry}));
        code("a catch of " + name, file, well, 16, 3);
    }

    // For each method in order 15; then for each method in order 16: what instructions, then catches, point to.

    private static void methodByMethod() {
        int[] wrong = {0, 0, 0, 0};
        int[] right = {0, 1, 0, 0};
        ClassFile both = new ClassFile().method("a", "()V", ClassFile.body(0, 0, ClassFile.row(26), wrong))
            .method("b", "()V", ClassFile.body(0, 0, ClassFile.row(0, 255), right));
        CHECK.broken("rule 15 of b before 16 of a", both.toBytes(), 15, both.codePlace(1) + 1);
        byte[] next = Trays.with(both.toBytes(), both.codePlace(1) + 1, 26);
        CHECK.broken("an instruction of a", next, 16, both.codePlace(0));
        next = Trays.with(next, both.codePlace(0), 0);
        CHECK.broken("a catch of a", next, 16, both.codePlace(0) + 3);
        next = Trays.with(next, both.codePlace(0) + 3 + 3, 1);
        CHECK.broken("an instruction of b", next, 16, both.codePlace(1) + 1);
        next = Trays.with(next, both.codePlace(1) + 1, 0);
        CHECK.whole("nothing is wrong any more", next);
    }
}
