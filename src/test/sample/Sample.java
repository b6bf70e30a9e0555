/**
 * What javac made of this is the file of JavacFileTest: javac --release 8 -g:lines,source, then the U2 49 for the
 * version, without the method &lt;init&gt;, and with the flags 9 for &lt;clinit&gt;. Not compiled by .ci/run.
 */
public class Sample {
    @Deprecated
    public static int count = 70000;
    public static long total = 123456789012345L;
    public static int[] row;

    public static int table(int a) {
        switch (a) {
            case 1:
                return 5;
            case 2:
                return -100;
            case 4:
                return 30000;
            case 7:
                return 1234567;
            default:
                return a;
        }
    }

    public static long lookup(int a, long b) {
        switch (a) {
            case -5:
                return 1L;
            case 1000:
                return b;
            case 100000:
                return 0x123456789ABCDEFL;
            default:
                return b + 0L;
        }
    }

    public static int[] fill(int n, int v) {
        int[] r = new int[n];
        for (int i = 0; i < r.length; i++) {
            r[i] += v;
            r[i] = (byte) r[i] + (char) v - (short) i;
        }
        return r;
    }

    public static int math(int a, int b, long c, long d) {
        int e = a + b - a * b / (b | 1) % 7;
        e = -e;
        e <<= 3;
        e >>= b;
        e >>>= a;
        e &= b;
        e |= a;
        e ^= ~b;
        long f = c + d - c * d / (d | 1L) % 7L;
        f = -f;
        f <<= 3;
        f >>= b;
        f >>>= a;
        f &= d;
        f |= c;
        f ^= d;
        e += 100;
        e -= 3;
        if (c < d) {
            e++;
        }
        if (c == d) {
            e--;
        }
        if (c >= f) {
            e += 2;
        }
        count += e;
        total += f;
        count++;
        return (int) f + e + (int) (long) e;
    }

    public static void nothing() {
    }

    @Deprecated
    public static void caught(int a, int[] b) throws NullError {
        try {
            count = a / b[a];
            row = b;
            int[] c = new int[a];
            row = c;
        } catch (DivideError e) {
            count = 1;
        } catch (NullError | IndexError e) {
            count = 2;
            throw e;
        } finally {
            total = 5L;
        }
        if (b == null || b != row && row == b) {
            math(a, a, 1L, total);
            lookup(a, 2L);
        }
        int x = count++;
        row[x]++;
        total++;
        long y = total++;
    }

    public static int loops(int a) {
        int s = 0;
        while (true) {
            if (a <= 0) {
                break;
            }
            if (a > 1000) {
                a--;
                continue;
            }
            do {
                s += a;
                a -= 2;
            } while (a != 3 && s < a && s != a || s > a);
        }
        return row[s] + row[a >= s ? 1 : 0] + (row != null ? 3 : 4);
    }

    public static int mid(int a, int b, int c, int d) {
        return table(a) < 0 ? mid(b, c, d, a) : 128 + 32767 + 32768 - 129;
    }
}

class DivideError extends RuntimeException {
}

class NullError extends RuntimeException {
}

class IndexError extends RuntimeException {
}
