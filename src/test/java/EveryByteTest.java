/**
 * Every byte of a file with all parts, changed to several others: no call throws, the rule and the place are
 * ones that there are, and a file with a broken rule leaves the answers as they were.
 */
public final class EveryByteTest {
    private static final Check CHECK = new Check();
    private static final int[] OTHERS = {0, 1, 2, 3, 5, 9, 10, 12, 24, 25, 127, 128, 170, 171, 184, 196, 200, 255};
    private static final int[] NUMBERS = {Integer.MIN_VALUE, -1, 0, 1, 2, 3, 5, 24, 1200, 16000, Integer.MAX_VALUE};

    public static void main(String[] args) {
        byte[] file = sample().toBytes();
        CHECK.whole("the sample", file);
        long before = answers(Trays.of(file));
        for (int p = 0; p < file.length; p++) {
            for (int other : OTHERS) {
                look("byte " + p + " as " + other, file, before, Trays.with(file, p, other));
            }
            if (p + 1 < file.length) {
                look("without byte " + p, file, before, Trays.without(file, p, p + 1));
                look("bytes " + p + " on as 255", file, before, Trays.with(file, p, 255, 255));
            }
        }
        CHECK.finish();
    }

    private static ClassFile sample() {
        ClassFile file = new ClassFile();
        int number = file.intOf(100000);
        int far = file.longOf(1L << 40);
        int x = file.fieldOf("x", "I");
        int b = file.methodOf("b", "(IJ)[I");
        int error = file.classOf("NullError");
        byte[] other = ClassFile.attribute(file.name("Other"), ClassFile.row(1, 2, 3));
        file.field(file.name("x"), file.name("I"), other);
        byte[] code = new ClassFile.Row().u1(3, 170, 0, 0).u4(23).u4(1).u4(2).u4(23).u4(23)
            .u1(18, number, 179, 0, x, 20, 0, far, 88, 167, 0, 3, 177).toBytes();
        file.method("a", "()V", ClassFile.body(2, 2, code, new int[] {0, 24, 24, error}));
        byte[] more = new ClassFile.Row().u1(26, 171, 0, 0).u4(27).u4(2).u4(-1).u4(-1).u4(9).u4(27)
            .u1(196, 132, 0, 0, 1, 1, 200, 0, 0, 0, 5, 26, 31, 184, 0, b, 176).toBytes();
        file.method("b", "(IJ)[I", ClassFile.body(3, 3, more, new int[] {0, 1, 0, 0}, new int[] {1, 28, 28, error}));
        return file.fileAttributes(other);
    }

    private static void look(String what, byte[] file, long before, byte[] changed) {
        FileRules rules = Trays.of(file);
        int rule = Trays.read(rules, changed);
        CHECK.due(what + ": the rule is one", rule >= 0 && rule <= 17, true);
        boolean there = rules.place() >= 0 && rules.place() <= changed.length;
        CHECK.due(what + ": the place is there", there, rule != 0);
        long answers = answers(rules);
        if (rule != 0) {
            CHECK.due(what + ": the answers", answers, before);
        }
    }

    private static long answers(FileRules rules) {
        long all = 7;
        for (int m : NUMBERS) {
            all = all * 31 + rules.size(m);
            all = all * 31 + rules.field(m);
            for (int i : NUMBERS) {
                all = all * 31 + rules.method(m, i);
                all = all * 31 + rules.code(m, i);
                all = all * 31 + rules.first(m, i);
                for (int k : NUMBERS) {
                    all = all * 31 + rules.target(m, i, k);
                }
            }
        }
        return all;
    }
}
