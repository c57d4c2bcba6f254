import java.util.Arrays;

/**
 * The document told again as plainly as can be, by other ways than the class goes: products by
 * shifts, logs and minimal polynomials by search, long division bit by bit, and mending by a look
 * at every RIGHT word. It mends codes with D = 1 or 2 alone.
 */
final class Model {
    static final int NONE = -1;
    static final int BAD = -2;
    static final int CLOSED = -3;
    static final int LOST = -4;
    private static final int[] F = {11, 19, 37, 67, 137, 285, 529, 1033, 2053, 4179, 8219};
    private static final int[][][] GENERATORS = new int[14][9][];

    private boolean open;
    int m;
    int t;
    int d;
    int r;
    int n;
    private int[] gen;
    private int[][] bits;
    private int[][] stuck;
    private boolean[][] marked;
    private int[] wear;
    private int[] buffer;
    private int[] turned = new int[0];
    private int[] counts = new int[3];
    private int[][] rightWords;

    static int mul(int a, int b, int m) {
        int sum = 0;
        for (int i = 0; i < m; i++) {
            if ((b >> i & 1) == 1) {
                sum ^= a << i;
            }
        }
        for (int i = 2 * m; i >= m; i--) {
            if ((sum >> i & 1) == 1) {
                sum ^= F[m - 3] << (i - m);
            }
        }
        return sum;
    }

    static int powerOf(int i, int m) {
        int order = (1 << m) - 1;
        int e = (i % order + order) % order;
        int a = 1;
        for (int k = 0; k < e; k++) {
            a = mul(a, 2, m);
        }
        return a;
    }

    private static int valueAt(int polynomial, int x, int m) {
        int sum = 0;
        for (int k = 31; k >= 0; k--) {
            sum = mul(sum, x, m) ^ (polynomial >> k & 1);
        }
        return sum;
    }

    private static int valueAt(int[] polynomial, int x, int m) {
        int sum = 0;
        for (int k = polynomial.length - 1; k >= 0; k--) {
            sum = mul(sum, x, m) ^ polynomial[k];
        }
        return sum;
    }

    /** The first number with the root has the least degree: rising numbers have rising degrees. */
    static int minimalOf(int i, int m) {
        int root = powerOf(i, m);
        for (int p = 1; ; p++) {
            if (valueAt(p, root, m) == 0) {
                return p;
            }
        }
    }

    /** Kept once it is found, for the search is slow. */
    static int[] generatorOf(int m, int t) {
        if (GENERATORS[m][t] == null) {
            GENERATORS[m][t] = findGenerator(m, t);
        }
        return GENERATORS[m][t];
    }

    private static int[] findGenerator(int m, int t) {
        int[] g = {1};
        for (int i = 1; i <= 2 * t; i++) {
            if (valueAt(g, powerOf(i, m), m) != 0) {
                g = multiply(g, minimalOf(i, m));
            }
        }
        return g;
    }

    private static int[] multiply(int[] g, int by) {
        int degree = 31 - Integer.numberOfLeadingZeros(by);
        int[] out = new int[g.length + degree];
        for (int i = 0; i < g.length; i++) {
            for (int j = 0; j <= degree; j++) {
                out[i + j] ^= g[i] & (by >> j & 1);
            }
        }
        return out;
    }

    int open(int m, int t, int d) {
        if (m < 3 || m > 13 || t < 1 || t > 8 || d < 1 || d > 256) {
            return BAD;
        }
        boolean same = open && m == this.m && t == this.t && d == this.d;
        int[] g = same ? gen : generatorOf(m, t);
        if (8 * d + g.length - 1 > (1 << m) - 1) {
            return BAD;
        }
        open = true;
        this.m = m;
        this.t = t;
        this.d = d;
        gen = g;
        r = g.length - 1;
        n = 8 * d + r;
        bits = new int[16][n];
        stuck = new int[16][n];
        for (int p = 0; p < 16; p++) {
            Arrays.fill(bits[p], 1);
            Arrays.fill(stuck[p], NONE);
        }
        marked = new boolean[16][n];
        wear = new int[16];
        buffer = new int[d];
        turned = new int[0];
        counts = new int[3];
        rightWords = same ? rightWords : null;
        return r;
    }

    private boolean isNumber(int a) {
        return a >= 0 && a < 1 << m;
    }

    int times(int a, int b) {
        return !open ? CLOSED : !isNumber(a) || !isNumber(b) ? BAD : mul(a, b, m);
    }

    int inverse(int a) {
        if (!open) {
            return CLOSED;
        }
        for (int b = 1; b < 1 << m; b++) {
            if (isNumber(a) && mul(a, b, m) == 1) {
                return b;
            }
        }
        return BAD;
    }

    int power(int i) {
        return !open ? CLOSED : i < -100000 || i > 100000 ? BAD : powerOf(i, m);
    }

    int log(int a) {
        if (!open) {
            return CLOSED;
        }
        int x = 1;
        for (int i = 0; i < (1 << m) - 1; i++) {
            if (x == a) {
                return i;
            }
            x = mul(x, 2, m);
        }
        return BAD;
    }

    int minimal(int i) {
        return !open ? CLOSED : i < 0 || i > (1 << m) - 2 ? BAD : minimalOf(i, m);
    }

    int generator(int i) {
        return !open ? CLOSED : i < 0 ? BAD : i < gen.length ? gen[i] : 0;
    }

    int put(int i, int b) {
        int was = get(i);
        if (was >= 0) {
            buffer[i] = b & 255;
        }
        return was;
    }

    int fill(int i, long v) {
        if (get(i) < 0) {
            return get(i);
        }
        int many = 0;
        for (int shift = 56; shift >= 0 && i + many < d; shift -= 8) {
            buffer[i + many] = (int) (v >> shift & 255);
            many++;
        }
        return many;
    }

    int get(int i) {
        return !open ? CLOSED : i < 0 || i >= d ? BAD : buffer[i];
    }

    /** The word of DATA: its turned bits over the tail's place, divided, leave the turned tail. */
    int[] wordOf(int[] data) {
        int[] word = new int[n];
        int[] left = new int[n];
        for (int k = 0; k < 8 * d; k++) {
            word[k] = data[k / 8] >> (7 - k % 8) & 1;
            left[k] = 1 - word[k];
        }
        for (int k = 0; k < 8 * d; k++) {
            if (left[k] == 1) {
                for (int j = 0; j <= r; j++) {
                    left[k + j] ^= gen[r - j];
                }
            }
        }
        for (int k = 8 * d; k < n; k++) {
            word[k] = 1 - left[k];
        }
        return word;
    }

    int tail(int i) {
        return !open ? CLOSED : i < 0 || i >= r ? BAD : wordOf(buffer)[8 * d + i];
    }

    private boolean isPage(int page) {
        return page >= 0 && page < 16;
    }

    private boolean isBit(int page, int bit) {
        return isPage(page) && bit >= 0 && bit < n;
    }

    private int apart(int[] a, int[] b) {
        int many = 0;
        for (int k = 0; k < n; k++) {
            many += a[k] != b[k] ? 1 : 0;
        }
        return many;
    }

    private int program(int page, int[] word) {
        for (int k = 0; k < n; k++) {
            if (stuck[page][k] == NONE && word[k] == 0) {
                bits[page][k] = 0;
            }
        }
        return apart(bits[page], word);
    }

    int write(int page) {
        return !open ? CLOSED : !isPage(page) ? BAD : program(page, wordOf(buffer));
    }

    int erase(int page) {
        if (!open || !isPage(page)) {
            return open ? BAD : CLOSED;
        }
        for (int k = 0; k < n; k++) {
            if (stuck[page][k] == NONE) {
                bits[page][k] = 1;
            }
            marked[page][k] = false;
        }
        return ++wear[page];
    }

    int flip(int page, int bit) {
        if (!open || !isBit(page, bit)) {
            return open ? BAD : CLOSED;
        }
        if (stuck[page][bit] == NONE) {
            bits[page][bit] ^= 1;
        }
        return bits[page][bit];
    }

    int stick(int page, int bit, int v) {
        if (!open || !isBit(page, bit) || v < -1 || v > 1) {
            return open ? BAD : CLOSED;
        }
        stuck[page][bit] = v;
        if (v != NONE) {
            bits[page][bit] = v;
        }
        return told(page, 2);
    }

    int mark(int page, int bit, boolean is) {
        if (!open || !isBit(page, bit)) {
            return open ? BAD : CLOSED;
        }
        marked[page][bit] = is;
        return told(page, 1);
    }

    int bit(int page, int bit) {
        return !open ? CLOSED : !isBit(page, bit) ? BAD : bits[page][bit];
    }

    private int[] mended(int page) {
        if (rightWords == null) {
            rightWords = new int[1 << 8 * d][];
            for (int data = 0; data < rightWords.length; data++) {
                rightWords[data] = wordOf(d == 1 ? new int[] {data} : new int[] {data >> 8, data & 255});
            }
        }
        int marks = told(page, 1);
        for (int[] word : rightWords) {
            int sum = marks;
            for (int k = 0; k < n && sum <= 2 * t; k++) {
                sum += !marked[page][k] && word[k] != bits[page][k] ? 2 : 0;
            }
            if (sum <= 2 * t) {
                return word;
            }
        }
        return null;
    }

    int read(int page) {
        if (!open || !isPage(page)) {
            return open ? BAD : CLOSED;
        }
        int[] word = mended(page);
        if (word == null) {
            counts[2]++;
            return LOST;
        }
        int many = apart(word, bits[page]);
        counts[many > 0 ? 0 : 1]++;
        turned = new int[many];
        int found = 0;
        for (int k = 0; k < n; k++) {
            if (word[k] != bits[page][k]) {
                turned[found++] = k;
            }
        }
        for (int i = 0; i < d; i++) {
            buffer[i] = 0;
            for (int j = 0; j < 8; j++) {
                buffer[i] |= word[8 * i + j] << (7 - j);
            }
        }
        return many;
    }

    int turned(int i) {
        return i < 0 || i >= turned.length ? NONE : turned[i];
    }

    int syndrome(int page, int i) {
        if (!open || !isPage(page) || i < 1 || i > 2 * t) {
            return open ? BAD : CLOSED;
        }
        int[] polynomial = new int[n];
        for (int k = 0; k < n; k++) {
            polynomial[n - 1 - k] = 1 - bits[page][k];
        }
        return valueAt(polynomial, powerOf(i, m), m);
    }

    int copy(int from, int to) {
        if (!open || !isPage(from) || !isPage(to)) {
            return open ? BAD : CLOSED;
        }
        int[] word = mended(from);
        if (word == null) {
            return LOST;
        }
        erase(to);
        return program(to, word);
    }

    int refresh(int most) {
        if (!open || most < 0 || most > 64) {
            return open ? BAD : CLOSED;
        }
        int many = 0;
        for (int page = 0; page < 16; page++) {
            int[] word = mended(page);
            if (word != null && apart(word, bits[page]) >= most) {
                copy(page, page);
                many++;
            }
        }
        return many;
    }

    int told(int page, int what) {
        if (!open || !isPage(page) || what < 0 || what > 19) {
            return open ? BAD : CLOSED;
        }
        if (what == 0) {
            return wear[page];
        }
        if (what >= 4) {
            return apart(bits[page], bits[(page + what - 4) % 16]);
        }
        int many = 0;
        for (int k = 0; k < n; k++) {
            boolean is = what == 1 ? marked[page][k] : what == 2 ? stuck[page][k] != NONE : bits[page][k] == 0;
            many += is ? 1 : 0;
        }
        return many;
    }

    int about(int what) {
        int[] all = {m, t, d, r, n, counts[0], counts[1], counts[2]};
        return !open ? CLOSED : what < 0 || what > 7 ? BAD : all[what];
    }
}
