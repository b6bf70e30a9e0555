import java.util.Arrays;

/** Ways to put bytes into a tray, and to change them before. */
final class Trays {
    private Trays() {
    }

    static int feed(FileRules rules, byte[] file) {
        byte[] padded = Arrays.copyOf(file, (file.length + 19) / 20 * 20);
        int inTray = 0;
        for (int p = 0; p < padded.length; p += 20) {
            inTray = rules.feed(word(padded, p), word(padded, p + 4), word(padded, p + 8),
                word(padded, p + 12), word(padded, p + 16));
        }
        return inTray;
    }

    static int read(FileRules rules, byte[] file) {
        feed(rules, file);
        rules.end(file.length);
        return rules.read();
    }

    static FileRules of(byte[] file) {
        FileRules rules = new FileRules();
        read(rules, file);
        return rules;
    }

    private static int word(byte[] b, int p) {
        return (b[p] & 255) << 24 | (b[p + 1] & 255) << 16 | (b[p + 2] & 255) << 8 | b[p + 3] & 255;
    }

    /** The file with other bytes from the place p on. */
    static byte[] with(byte[] file, int p, int... values) {
        byte[] changed = file.clone();
        for (int i = 0; i < values.length; i++) {
            changed[p + i] = (byte) values[i];
        }
        return changed;
    }

    static byte[] cut(byte[] file, int length) {
        return Arrays.copyOf(file, length);
    }

    static byte[] without(byte[] file, int from, int to) {
        byte[] shorter = new byte[file.length - (to - from)];
        System.arraycopy(file, 0, shorter, 0, from);
        System.arraycopy(file, to, shorter, from, file.length - to);
        return shorter;
    }
}
