import java.util.Arrays;

/** Promises 4 and 5: rule 15. */
public final class InstructionsTest {
    private static final Check CHECK = new Check();

    /** First and last number, and how many bytes they take. */
    private static final int[][] TOLD = {
        {0, 10, 1}, {16, 16, 2}, {17, 17, 3}, {18, 18, 2}, {19, 20, 3}, {21, 22, 2}, {25, 25, 2}, {26, 33, 1},
        {42, 46, 1}, {54, 55, 2}, {58, 58, 2}, {59, 66, 1}, {75, 79, 1}, {87, 90, 1}, {92, 92, 1}, {95, 97, 1},
        {100, 101, 1}, {104, 105, 1}, {108, 109, 1}, {112, 113, 1}, {116, 117, 1}, {120, 131, 1}, {132, 132, 3},
        {133, 133, 1}, {136, 136, 1}, {145, 148, 1}, {153, 167, 3}, {172, 173, 1}, {176, 177, 1}, {178, 179, 3},
        {184, 184, 3}, {190, 191, 1}, {198, 199, 3}, {200, 200, 5},
    };

    public static void main(String[] args) {
        everyNumber();
        newInts();
        wide();
        tables();
        pairs();
        padding();
        firstWrongOne();
        methodByMethod();
        CHECK.finish();
    }

    private static int lengthOf(int number) {
        for (int[] told : TOLD) {
            if (number >= told[0] && number <= told[1]) {
                return told[2];
            }
        }
        return 0;
    }

    private static ClassFile code(byte[] code) {
        return new ClassFile().method("a", "()V", ClassFile.body(24, 24, code));
    }

    /** The code is a row of whole instructions: at most rule 16 is broken. */
    private static void whole(String what, int... code) {
        FileRules rules = new FileRules();
        int rule = Trays.read(rules, code(ClassFile.row(code)).toBytes());
        CHECK.due(what + " is whole", rule == 0 || rule == 16, true);
    }

    private static void wrong(String what, int at, int... code) {
        ClassFile file = code(ClassFile.row(code));
        CHECK.broken(what, file.toBytes(), 15, file.codePlace(0) + at);
    }

    private static void everyNumber() {
        for (int number = 0; number < 256; number++) {
            if (number == 170 || number == 171 || number == 188 || number == 196) {
                continue;
            }
            int length = lengthOf(number);
            if (length == 0) {
                wrong("number " + number, 1, 0, number, 0, 0, 0, 0, 0, 0, 0, 0);
                continue;
            }
            int[] code = new int[length + 1];
            code[0] = number;
            code[length] = 177;
            whole("number " + number, code);
            // A number that is no instruction stands right behind it.
            code[length] = 255;
            wrong("behind number " + number, length, code);
            for (int cut = 1; cut < length; cut++) {
                int[] half = new int[cut + 1];
                half[1] = number;
                wrong("number " + number + " cut to " + cut, 1, half);
            }
        }
    }

    private static void newInts() {
        whole("new ints", 3, 188, 10, 176);
        for (int sort : new int[] {0, 4, 9, 11, 255}) {
            wrong("new of " + sort, 1, 3, 188, sort, 176);
        }
        wrong("new, cut", 1, 3, 188);
        // The byte behind the code is the first of the count of catches, which could be taken for 10.
        int[][] catches = new int[0x0A][];
        Arrays.fill(catches, new int[] {0, 1, 0, 0});
        ClassFile file = new ClassFile().method("a", "()V", ClassFile.body(1, 1, ClassFile.row(3, 188), catches));
        CHECK.broken("new, cut before catches", file.toBytes(), 15, file.codePlace(0) + 1);
    }

    private static void wide() {
        for (int number = 0; number < 256; number++) {
            boolean local = number == 21 || number == 22 || number == 25 || number == 54 || number == 55 || number == 58;
            if (local) {
                whole("wide " + number, 196, number, 0, 3, 177);
                wrong("wide, behind it", 4, 196, number, 0, 3, 255);
                wrong("wide, cut", 1, 0, 196, number, 0);
            } else if (number == 132) {
                whole("wide 132", 196, number, 0, 3, 1, 0, 177);
                wrong("wide 132, behind it", 6, 196, number, 0, 3, 1, 0, 255);
                wrong("wide 132, cut", 1, 0, 196, number, 0, 3, 1);
            } else {
                wrong("wide " + number, 1, 0, 196, number, 0, 0, 0, 0, 0, 0);
            }
        }
        wrong("wide, bare", 0, 196);
        wrong("wide, half", 0, 196, 21);
    }

    private static byte[] table(int low, int high, int offsets) {
        ClassFile.Row row = new ClassFile.Row().u1(170, 0, 0, 0).u4(0).u4(low).u4(high);
        for (int i = 0; i < offsets; i++) {
            row.u4(0);
        }
        return row.toBytes();
    }

    private static void tables() {
        int max = Integer.MAX_VALUE;
        int min = Integer.MIN_VALUE;
        int[][] good = {{0, 0}, {1, 3}, {-2, 2}, {0, 200}, {max, max}, {min, min}, {max - 200, max}, {min, min + 200}};
        for (int[] rows : good) {
            int offsets = rows[1] - rows[0] + 1;
            CHECK.whole("table " + rows[0] + " " + rows[1], code(table(rows[0], rows[1], offsets)).toBytes());
            byte[] cut = table(rows[0], rows[1], offsets);
            ClassFile file = code(Arrays.copyOf(cut, cut.length - 1));
            CHECK.broken("table cut", file.toBytes(), 15, file.codePlace(0));
        }
        int[][] bad = {{0, 201}, {1, 0}, {max, min}, {min, max}, {0, max}, {min, 0}, {-1, 200}, {max, min + 100}};
        for (int[] rows : bad) {
            ClassFile file = code(table(rows[0], rows[1], 250));
            CHECK.broken("table " + rows[0] + " " + rows[1], file.toBytes(), 15, file.codePlace(0));
        }
        byte[] whole = table(0, 1, 2);
        for (int length = 1; length < whole.length; length++) {
            ClassFile file = code(Arrays.copyOf(whole, length));
            CHECK.broken("table of " + length, file.toBytes(), 15, file.codePlace(0));
        }
    }

    private static byte[] pairs(int count, int... numbers) {
        ClassFile.Row row = new ClassFile.Row().u1(171, 0, 0, 0).u4(0).u4(count);
        for (int number : numbers) {
            row.u4(number).u4(0);
        }
        return row.toBytes();
    }

    private static void pairs() {
        int max = Integer.MAX_VALUE;
        int min = Integer.MIN_VALUE;
        int[][] good = {{}, {0}, {-1}, {1, 2}, {-5, 0, 5}, {min, max}, {min, -1, 0, max}, {255, 256}};
        for (int[] numbers : good) {
            CHECK.whole("pairs " + Arrays.toString(numbers), code(pairs(numbers.length, numbers)).toBytes());
        }
        int[][] bad = {{1, 1}, {2, 1}, {0, -1}, {max, min}, {1, 2, 2}, {1, 3, 2}, {-1, -2, 5}};
        for (int[] numbers : bad) {
            ClassFile file = code(pairs(numbers.length, numbers));
            CHECK.broken("pairs " + Arrays.toString(numbers), file.toBytes(), 15, file.codePlace(0));
        }
        int[] rising = new int[140];
        Arrays.setAll(rising, i -> i);
        CHECK.whole("140 pairs", code(pairs(140, rising)).toBytes());
        for (int count : new int[] {201, 141, -1, max, min, 1 << 29}) {
            ClassFile file = code(pairs(count, rising));
            CHECK.broken("pairs with the count " + count, file.toBytes(), 15, file.codePlace(0));
        }
        byte[] whole = pairs(2, 4, 5);
        for (int length = 1; length < whole.length; length++) {
            ClassFile file = code(Arrays.copyOf(whole, length));
            CHECK.broken("pairs of " + length, file.toBytes(), 15, file.codePlace(0));
        }
    }

    /** The bytes that fill up may be anything, and are counted from the code's beginning. */
    private static void padding() {
        for (int before = 0; before < 9; before++) {
            for (int file = 0; file < 4; file++) {
                ClassFile.Row row = new ClassFile.Row();
                for (int i = 0; i < before; i++) {
                    row.u1(0);
                }
                row.u1(170);
                while (row.length() % 4 != 0) {
                    row.u1(255);
                }
                row.u4(0).u4(7).u4(7).u4(0).u1(177);
                ClassFile moved = new ClassFile();
                moved.name("x".repeat(file + 1));
                moved.method("a", "()V", ClassFile.body(1, 1, row.toBytes()));
                CHECK.whole(before + " before a table, moved by " + file, moved.toBytes());
                CHECK.due("instructions", Trays.of(moved.toBytes()).method(0, 0), before + 2);
            }
        }
    }

    private static void firstWrongOne() {
        wrong("two wrong ones", 2, 3, 87, 255, 255, 177);
        wrong("the first", 0, 255);
        wrong("inside of another", 2, 16, 255, 255);
        whole("a wrong number as an operand", 16, 255, 87, 177);
        wrong("rule 15 before 16", 3, 167, 99, 99, 255);
    }

    private static void methodByMethod() {
        ClassFile file = new ClassFile().method("a", "()V", 0, 0, 26).method("b", "()V", 0, 0, 177)
            .method("c", "()V", 0, 0, 0, 11).method("d", "()V", 0, 0, 12);
        CHECK.broken("15 of c before 16 of a and 15 of d", file.toBytes(), 15, file.codePlace(2) + 1);
    }
}
