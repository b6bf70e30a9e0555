import java.util.Arrays;

/** Promises 1 to 3: a new object, feed and end. */
public final class TrayTest {
    private static final Check CHECK = new Check();

    public static void main(String[] args) {
        newObject();
        feedCountsTwentyBytes();
        feedPutsTheHighestByteFirst();
        feedRefusesMoreThanTheTrayHolds();
        feedRefusesMoreThanAllBytes();
        refusedFeedsDoNotCount();
        endKeepsTheFirstBytes();
        endRefusesOtherNumbers();
        CHECK.finish();
    }

    private static void newObject() {
        FileRules rules = new FileRules();
        CHECK.due("new place()", rules.place(), -1);
        for (int what = -1; what <= 3; what++) {
            CHECK.due("new size", rules.size(what), -1);
        }
        CHECK.due("new field(0)", rules.field(0), -1);
        CHECK.due("new method(0, 0)", rules.method(0, 0), -1);
        CHECK.due("new code(0, 0)", rules.code(0, 0), -1);
        CHECK.due("new first(0, 0)", rules.first(0, 0), 0);
        CHECK.due("new target(0, 0, 0)", rules.target(0, 0, 0), -1);
        CHECK.due("new end(1)", rules.end(1), false);
        CHECK.due("new end(0)", rules.end(0), true);
        CHECK.due("new read()", rules.read(), 2);
        CHECK.due("new place() after read()", rules.place(), 0);
    }

    private static void feedCountsTwentyBytes() {
        FileRules rules = new FileRules();
        for (int i = 1; i <= 5; i++) {
            CHECK.due("feed " + i, rules.feed(i, -i, 0, Integer.MIN_VALUE, Integer.MAX_VALUE), 20 * i);
        }
        rules.read();
        CHECK.due("feed after read()", rules.feed(0, 0, 0, 0, 0), 20);
    }

    private static void feedPutsTheHighestByteFirst() {
        int[] head = {0xCAFEBABE, 49, 0x00010021, 0, 0};
        for (int i = 0; i < 8; i++) {
            FileRules rules = new FileRules();
            int[] words = head.clone();
            words[i / 4] ^= 1 << (24 - 8 * (i % 4));
            rules.feed(words[0], words[1], words[2], words[3], words[4]);
            CHECK.due("read() with byte " + i + " changed", rules.read(), 1);
            CHECK.due("place() with byte " + i + " changed", rules.place(), i);
        }
        FileRules rules = new FileRules();
        rules.feed(head[0], head[1], 0x00030A00, 0x00000099, 0x00000000);
        CHECK.due("read() of an entry with the tag 153", rules.read(), 3);
        CHECK.due("place() of it, behind an entry of five bytes", rules.place(), 15);
    }

    private static void feedRefusesMoreThanTheTrayHolds() {
        FileRules rules = new FileRules();
        for (int i = 1; i <= 800; i++) {
            CHECK.due("feed " + i, rules.feed(0, 0, 0, 0, 0), 20 * i);
        }
        CHECK.due("feed 801", rules.feed(0, 0, 0, 0, 0), -1);
        CHECK.due("end(16000)", rules.end(16000), true);
        CHECK.due("end(15981)", rules.end(15981), true);
        CHECK.due("feed beyond by one byte", rules.feed(0, 0, 0, 0, 0), -1);
        CHECK.due("end(15980)", rules.end(15980), true);
        CHECK.due("feed to the last byte", rules.feed(0, 0, 0, 0, 0), 16000);
    }

    private static void feedRefusesMoreThanAllBytes() {
        FileRules rules = new FileRules();
        for (int i = 1; i <= 3276; i++) {
            CHECK.due("feed " + i, rules.feed(0, 0, 0, 0, 0), 20);
            rules.end(0);
        }
        CHECK.due("feed of 65540 bytes in all", rules.feed(0, 0, 0, 0, 0), -1);
        CHECK.due("end(1) after it", rules.end(1), false);
    }

    private static void refusedFeedsDoNotCount() {
        FileRules rules = new FileRules();
        for (int i = 1; i <= 800; i++) {
            rules.feed(0, 0, 0, 0, 0);
        }
        for (int i = 1; i <= 4000; i++) {
            CHECK.due("refused feed", rules.feed(0, 0, 0, 0, 0), -1);
        }
        rules.read();
        CHECK.due("feed after refused ones", rules.feed(0, 0, 0, 0, 0), 20);
    }

    private static void endKeepsTheFirstBytes() {
        byte[] file = new ClassFile().method("a", "()V", 0, 0, 177).toBytes();
        FileRules rules = new FileRules();
        int fed = Trays.feed(rules, file);
        CHECK.due("fed", fed, (file.length + 19) / 20 * 20);
        CHECK.due("end at the file's end", rules.end(file.length), true);
        CHECK.due("end again, with one more", rules.end(file.length + 1), false);
        CHECK.due("end again, the same", rules.end(file.length), true);
        CHECK.due("read()", rules.read(), 0);

        // What is fed after end() goes behind the bytes that were kept.
        byte[] longer = Arrays.copyOf(file, file.length + 20);
        rules = new FileRules();
        Trays.feed(rules, longer);
        rules.end(10);
        CHECK.due("feed behind 10 bytes", rules.feed(0, 0, 0, 0, 0), 30);
        rules.end(10);
        rules.feed(-1, -1, -1, -1, -1);
        CHECK.due("read() of it", rules.read(), 3);
        CHECK.due("place() of it", rules.place(), 10);
    }

    private static void endRefusesOtherNumbers() {
        FileRules rules = new FileRules();
        rules.feed(1, 2, 3, 4, 5);
        CHECK.due("end(-1)", rules.end(-1), false);
        CHECK.due("end(MIN)", rules.end(Integer.MIN_VALUE), false);
        CHECK.due("end(21)", rules.end(21), false);
        CHECK.due("end(MAX)", rules.end(Integer.MAX_VALUE), false);
        CHECK.due("end(20)", rules.end(20), true);
        CHECK.due("feed after it", rules.feed(1, 2, 3, 4, 5), 40);
        CHECK.due("end(0)", rules.end(0), true);
        CHECK.due("feed after end(0)", rules.feed(1, 2, 3, 4, 5), 20);
        rules.read();
        CHECK.due("end(1) of the empty tray", rules.end(1), false);
    }
}
