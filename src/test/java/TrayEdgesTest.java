/** Promises 1 to 3 and the 512 calls: a test for each sentence that names an edge, on both sides of it. */
public final class TrayEdgesTest {
    private static final Check CHECK = new Check();
    private static final int MIN = Integer.MIN_VALUE;
    private static final int MAX = Integer.MAX_VALUE;
    private static final int MOST_IN_TRAY = 16000;
    private static final int MOST_CALLS = 512;
    /** So many whole feeds are 65520 bytes; one more would be 65540. */
    private static final int MOST_FEEDS = 3276;

    public static void main(String[] args) {
        aNewObjectHasNoBytes();
        aNewObjectHasReadNothing();
        objectsShareNothing();
        callsWithOneLongFile();
        callsWithManyFiles();
        callsThatOnlyRead();
        feedsTwentyBytesHighestFirst();
        feedAnswersHowManyAreInTheTray();
        noMoreThanTheTrayHolds();
        aRefusedFeedLeavesTheFullTray();
        noMoreThanAllBytes();
        cutBytesCountToAllBytes();
        aRefusedFeedLeavesTheLastTray();
        refusedFeedsDoNotCount();
        endWithNoByteAndAllBytes();
        endOfTheEmptyTray();
        endRefusedDoesNothing();
        endKeepsTheFirstBytesAlone();
        CHECK.finish();
    }

    private static int feedZeros(FileRules rules) {
        return rules.feed(0, 0, 0, 0, 0);
    }

    private static void feedZeros(FileRules rules, int times) {
        for (int i = 0; i < times; i++) {
            feedZeros(rules);
        }
    }

    // Promise 1: No bytes, nothing read.

    private static void aNewObjectHasNoBytes() {
        CHECK.due("new end(0)", new FileRules().end(0), true);
        CHECK.due("new end(1)", new FileRules().end(1), false);
        CHECK.due("new feed", feedZeros(new FileRules()), 20);
        FileRules rules = new FileRules();
        CHECK.due("new read()", rules.read(), 2);
        CHECK.due("place() of it", rules.place(), 0);
    }

    private static void aNewObjectHasReadNothing() {
        CHECK.due("new place()", new FileRules().place(), -1);
        for (int number : new int[] {MIN, -1, 0, 1, 2, 3, 23, 24, MAX}) {
            CHECK.due("new size", new FileRules().size(number), -1);
            CHECK.due("new field", new FileRules().field(number), -1);
            CHECK.due("new method", new FileRules().method(number, 0), -1);
            CHECK.due("new method's", new FileRules().method(0, number), -1);
            CHECK.due("new code", new FileRules().code(number, 0), -1);
            CHECK.due("new code's", new FileRules().code(0, number), -1);
            CHECK.due("new first", new FileRules().first(number, 0), 0);
            CHECK.due("new first's", new FileRules().first(0, number), 0);
            CHECK.due("new target", new FileRules().target(0, 0, number), -1);
        }
        FileRules rules = new FileRules();
        feedZeros(rules);
        rules.end(3);
        CHECK.due("place() without a read()", rules.place(), -1);
        CHECK.due("size(2) without a read()", rules.size(2), -1);
        rules.read();
        CHECK.due("size(0) behind a broken file alone", rules.size(0), -1);
        CHECK.due("size(1) behind a broken file alone", rules.size(1), -1);
        CHECK.due("size(2) behind a broken file alone", rules.size(2), -1);
    }

    private static void objectsShareNothing() {
        FileRules one = Trays.of(new ClassFile().field("x", "J").toBytes());
        feedZeros(one, 7);
        FileRules other = new FileRules();
        CHECK.due("another object's place()", other.place(), -1);
        CHECK.due("another object's size(0)", other.size(0), -1);
        CHECK.due("another object's field(0)", other.field(0), -1);
        CHECK.due("another object's feed()", feedZeros(other), 20);
        CHECK.due("the first one's feed()", feedZeros(one), 160);
        other.read();
        CHECK.due("the first one's place()", one.place(), -1);
        CHECK.due("the first one's field(0)", one.field(0), 2);
    }

    // An object is used for at most 512 calls after it has been made.

    private static void callsWithOneLongFile() {
        ClassFile file = new ClassFile();
        for (int m = 0; m < 8; m++) {
            byte[] code = new byte[1200];
            code[1199] = (byte) 177;
            file.method("m" + m, "()V", ClassFile.body(24, 24, code));
        }
        byte[] bytes = file.toBytes();
        FileRules rules = new FileRules();
        int calls = (bytes.length + 19) / 20;
        CHECK.due("feed of the long file", Trays.feed(rules, bytes), 20 * calls);
        CHECK.due("end of the long file", rules.end(bytes.length), true);
        CHECK.due("read() of the long file", rules.read(), 0);
        for (calls += 2; calls < MOST_CALLS; calls++) {
            CHECK.due("call " + (calls + 1), rules.code(7, 1199), 177);
        }
    }

    private static void callsWithManyFiles() {
        ClassFile small = new ClassFile().field("x", "[I");
        byte[] whole = small.toBytes();
        byte[] broken = Trays.with(whole, small.classPlace() + 5, 1);
        int callsForOne = (whole.length + 19) / 20 + 4;
        FileRules rules = new FileRules();
        for (int i = 0; i < MOST_CALLS / callsForOne; i++) {
            boolean well = i % 3 != 1;
            CHECK.due("read() of file " + i, Trays.read(rules, well ? whole : broken), well ? 0 : 8);
            CHECK.due("place() of file " + i, rules.place(), well ? -1 : small.classPlace() + 4);
            CHECK.due("field(0) behind file " + i, rules.field(0), 4);
        }
    }

    private static void callsThatOnlyRead() {
        FileRules rules = new FileRules();
        for (int i = 1; i <= MOST_CALLS; i++) {
            CHECK.due("read() " + i + " of the empty tray", rules.read(), 2);
        }
    }

    // Promise 2: feeds twenty bytes, the highest of a first, then b, c, d, e: how many are in the tray.

    /** Byte k of a feed is a CLASS's tag and the last byte that is kept: all else would break rule 3 or 4. */
    private static void feedsTwentyBytesHighestFirst() {
        for (int k = 0; k < 20; k++) {
            int nameLength = 20 + k - 13;
            byte[] head = new ClassFile.Row().u1(202, 254, 186, 190, 0, 0, 0, 49).u2(9).u1(1).u2(nameLength).toBytes();
            byte[] file = java.util.Arrays.copyOf(head, 40);
            java.util.Arrays.fill(file, head.length, 40, (byte) 'x');
            file[20 + k] = 7;
            FileRules rules = new FileRules();
            Trays.feed(rules, file);
            rules.end(20 + k + 1);
            CHECK.due("a CLASS's tag as byte " + k + " of a feed", rules.read(), 2);
            CHECK.due("its end", rules.place(), 20 + k + 1);
            file[20 + k] = (byte) 135;
            Trays.feed(rules, file);
            rules.end(20 + k + 1);
            CHECK.due("no tag as byte " + k + " of a feed", rules.read(), 3);
            CHECK.due("its place", rules.place(), 20 + k);
        }
    }

    private static void feedAnswersHowManyAreInTheTray() {
        FileRules rules = new FileRules();
        CHECK.due("feed of an empty tray", rules.feed(MIN, MAX, -1, 0, 1), 20);
        CHECK.due("feed of 20", feedZeros(rules), 40);
        rules.end(39);
        CHECK.due("feed of 39", feedZeros(rules), 59);
        rules.end(1);
        CHECK.due("feed of 1", feedZeros(rules), 21);
        rules.end(0);
        CHECK.due("feed of 0", feedZeros(rules), 20);
        rules.read();
        CHECK.due("feed behind a read", feedZeros(rules), 20);
    }

    // -1, and nothing is fed, if there would be more than 16000.

    private static void noMoreThanTheTrayHolds() {
        for (int inTray : new int[] {15960, 15979, 15980, 15981, 15999, 16000}) {
            FileRules rules = new FileRules();
            feedZeros(rules, MOST_IN_TRAY / 20);
            CHECK.due("end(" + inTray + ")", rules.end(inTray), true);
            boolean fits = inTray + 20 <= MOST_IN_TRAY;
            CHECK.due("feed of " + inTray, feedZeros(rules), fits ? inTray + 20 : -1);
            int now = fits ? inTray + 20 : inTray;
            CHECK.due("one more than there are", rules.end(now + 1), false);
            CHECK.due("as many as there are", rules.end(now), true);
        }
    }

    private static void aRefusedFeedLeavesTheFullTray() {
        for (int length : new int[] {15981, 15990, 15999, 16000}) {
            FileRules rules = new FileRules();
            Trays.feed(rules, ClassFile.whole(length));
            rules.end(length);
            CHECK.due("feed of " + length, rules.feed(-1, -1, -1, -1, -1), -1);
            CHECK.due("read() of " + length, rules.read(), 0);
            CHECK.due("size(2) of " + length, rules.size(2), 7);
            CHECK.due("feed behind it", feedZeros(rules), 20);
        }
    }

    // Or more than 65536 in all (each feed() counts 20, whatever end() cuts); at most 65536 bytes can be fed in all.

    private static void noMoreThanAllBytes() {
        FileRules rules = new FileRules();
        for (int i = 1; i <= MOST_FEEDS; i++) {
            int inTray = (i - 1) % 800 * 20 + 20;
            CHECK.due("feed " + i, feedZeros(rules), inTray);
            if (inTray == MOST_IN_TRAY) {
                rules.read();
            }
        }
        int inTray = MOST_FEEDS % 800 * 20;
        CHECK.due("feed of 65540 in all", feedZeros(rules), -1);
        CHECK.due("one more than there are", rules.end(inTray + 1), false);
        CHECK.due("as many as there are", rules.end(inTray), true);
        CHECK.due("feed again", feedZeros(rules), -1);
        rules.read();
        CHECK.due("feed behind a read", feedZeros(rules), -1);
        CHECK.due("nothing is in the tray", rules.end(1), false);
        CHECK.due("another object's feed", feedZeros(new FileRules()), 20);
    }

    private static void cutBytesCountToAllBytes() {
        for (int kept : new int[] {0, 1, 19, 20}) {
            FileRules rules = new FileRules();
            for (int i = 1; i <= MOST_FEEDS; i++) {
                int fed = feedZeros(rules);
                if (fed < 20 || fed > 40) {
                    CHECK.due("feed " + i, fed, 20 + kept);
                }
                rules.end(kept);
            }
            CHECK.due("feed when all but " + kept + " are cut", feedZeros(rules), -1);
            CHECK.due("one more than there are", rules.end(kept + 1), false);
            CHECK.due("as many as there are", rules.end(kept), true);
        }
    }

    private static void aRefusedFeedLeavesTheLastTray() {
        byte[] file = ClassFile.whole(400);
        FileRules rules = new FileRules();
        for (int i = 0; i < MOST_FEEDS - 20; i++) {
            feedZeros(rules);
            rules.end(0);
        }
        CHECK.due("feed to 65520 in all", Trays.feed(rules, file), 400);
        CHECK.due("feed beyond", rules.feed(-1, -1, -1, -1, -1), -1);
        CHECK.due("read() of what was fed before", rules.read(), 0);
    }

    private static void refusedFeedsDoNotCount() {
        FileRules rules = new FileRules();
        feedZeros(rules, 800 + MOST_FEEDS);
        rules.read();
        for (int i = 801; i <= MOST_FEEDS; i++) {
            CHECK.due("feed " + i + " behind refused ones", feedZeros(rules), 20);
            rules.read();
        }
        CHECK.due("feed of 65540 in all", feedZeros(rules), -1);
    }

    // Promise 3: false, and nothing is done, if n is below 0 or more than it has.

    private static void endWithNoByteAndAllBytes() {
        for (int feeds = 1; feeds <= 3; feeds++) {
            FileRules rules = new FileRules();
            feedZeros(rules, feeds);
            CHECK.due("end with all and one", rules.end(20 * feeds + 1), false);
            CHECK.due("end with all", rules.end(20 * feeds), true);
            CHECK.due("end with all but one", rules.end(20 * feeds - 1), true);
            CHECK.due("end with all that were", rules.end(20 * feeds), false);
            CHECK.due("end with -1", rules.end(-1), false);
            CHECK.due("end with 1", rules.end(1), true);
            CHECK.due("end with 0", rules.end(0), true);
            CHECK.due("end with 1 of none", rules.end(1), false);
        }
    }

    private static void endOfTheEmptyTray() {
        FileRules rules = new FileRules();
        for (int when = 0; when < 2; when++) {
            CHECK.due("end(-1) of the empty tray", rules.end(-1), false);
            CHECK.due("end(0) of the empty tray", rules.end(0), true);
            CHECK.due("end(1) of the empty tray", rules.end(1), false);
            CHECK.due("end(20) of the empty tray", rules.end(20), false);
            feedZeros(rules);
            rules.read();
        }
    }

    private static void endRefusedDoesNothing() {
        byte[] file = ClassFile.whole(120);
        for (int n : new int[] {MIN, -1, 121, 16000, 16001, MAX}) {
            FileRules rules = new FileRules();
            Trays.feed(rules, file);
            CHECK.due("end(" + n + ") of 120", rules.end(n), false);
            CHECK.due("read() behind end(" + n + ")", rules.read(), 0);
            CHECK.due("end(" + n + ") behind read()", rules.end(n), false);
            CHECK.due("size(2) behind end(" + n + ")", rules.size(2), 7);
        }
    }

    private static void endKeepsTheFirstBytesAlone() {
        byte[] file = ClassFile.whole(120);
        for (int n = 0; n <= 120; n++) {
            FileRules rules = new FileRules();
            Trays.feed(rules, file);
            CHECK.due("end(" + n + ")", rules.end(n), true);
            CHECK.due("end again with one more", rules.end(n + 1), false);
            CHECK.due("read() of " + n, rules.read(), n < 120 ? 2 : 0);
            CHECK.due("place() of " + n, rules.place(), n < 120 ? n : -1);
        }
    }
}
