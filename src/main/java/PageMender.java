import java.util.Arrays;

/** Pages of a chip whose bits go wrong, mended by binary codes over fields of powers of 2. */
public final class PageMender {
    public static final int NONE = -1;
    public static final int BAD = -2;
    public static final int CLOSED = -3;
    public static final int LOST = -4;

    private static final int PAGES = 16;
    private static final int LEAST_M = 3;
    private static final int MOST_M = 13;
    private static final int MOST_T = 8;
    private static final int MOST_D = 256;
    private static final int MOST_R = MOST_M * MOST_T;
    private static final int LONGS = (8 * MOST_D + MOST_R + 63) >> 6;
    private static final int FARTHEST_POWER = 100000;
    private static final int MOST_TO_REFRESH = 64;

    private final Field field;
    private final Code code;
    private final Mender mender;
    private final Page[] pages;
    /** The BUFFER as the DATA of a word; the word's tail is RIGHT only just after complete(). */
    private final Row buffer;
    private final Row turnedBits;
    private boolean opened;
    private int readsMended;
    private int readsRight;
    private int readsLost;

    public PageMender() {
        field = new Field();
        code = new Code(field);
        mender = new Mender(field, code);
        pages = new Page[PAGES];
        for (int i = 0; i < PAGES; i++) {
            pages[i] = new Page();
        }
        buffer = new Row();
        turnedBits = new Row();
    }

    // ---- the field

    public int open(int m, int t, int d) {
        if (m < LEAST_M || m > MOST_M || t < 1 || t > MOST_T || d < 1 || d > MOST_D) {
            return BAD;
        }
        // R is counted ahead of all else, for a refused code must leave the present one whole.
        int r = Cosets.tailLength(m, t);
        if (8 * d + r > (1 << m) - 1) {
            return BAD;
        }
        field.become(m);
        code.become(t, d);
        for (int i = 0; i < PAGES; i++) {
            pages[i].renew(code.ones);
        }
        buffer.clear();
        turnedBits.clear();
        readsMended = 0;
        readsRight = 0;
        readsLost = 0;
        opened = true;
        return r;
    }

    public int times(int a, int b) {
        if (!opened) {
            return CLOSED;
        }
        if (!field.has(a) || !field.has(b)) {
            return BAD;
        }
        return field.product(a, b);
    }

    public int inverse(int a) {
        if (!opened) {
            return CLOSED;
        }
        if (!field.has(a) || a == 0) {
            return BAD;
        }
        return field.reciprocal(a);
    }

    public int power(int i) {
        if (!opened) {
            return CLOSED;
        }
        if (i < -FARTHEST_POWER || i > FARTHEST_POWER) {
            return BAD;
        }
        return field.powerOfA(i);
    }

    public int log(int a) {
        if (!opened) {
            return CLOSED;
        }
        if (!field.has(a) || a == 0) {
            return BAD;
        }
        return field.logs[a];
    }

    public int minimal(int i) {
        if (!opened) {
            return CLOSED;
        }
        if (i < 0 || i >= field.order) {
            return BAD;
        }
        return field.minimalPolynomial(i);
    }

    public int generator(int i) {
        if (!opened) {
            return CLOSED;
        }
        if (i < 0) {
            return BAD;
        }
        return i > code.r ? 0 : code.polynomial[i];
    }

    // ---- the buffer

    public int put(int i, int b) {
        if (!opened) {
            return CLOSED;
        }
        if (!hasByte(i)) {
            return BAD;
        }
        int was = buffer.byteAt(i);
        buffer.setByte(i, b & 255);
        return was;
    }

    public int fill(int i, long v) {
        if (!opened) {
            return CLOSED;
        }
        if (!hasByte(i)) {
            return BAD;
        }
        int many = Math.min(8, code.d - i);
        for (int j = 0; j < many; j++) {
            buffer.setByte(i + j, (int) (v >>> (56 - 8 * j)) & 255);
        }
        return many;
    }

    public int get(int i) {
        if (!opened) {
            return CLOSED;
        }
        if (!hasByte(i)) {
            return BAD;
        }
        return buffer.byteAt(i);
    }

    public int tail(int i) {
        if (!opened) {
            return CLOSED;
        }
        if (i < 0 || i >= code.r) {
            return BAD;
        }
        code.complete(buffer);
        return buffer.at(8 * code.d + i);
    }

    // ---- pages

    public int write(int page) {
        if (!opened) {
            return CLOSED;
        }
        if (!hasPage(page)) {
            return BAD;
        }
        code.complete(buffer);
        return pages[page].program(buffer);
    }

    public int erase(int page) {
        if (!opened) {
            return CLOSED;
        }
        if (!hasPage(page)) {
            return BAD;
        }
        pages[page].wipe(code.ones);
        return pages[page].wear;
    }

    public int flip(int page, int bit) {
        if (!opened) {
            return CLOSED;
        }
        if (!hasPage(page) || !hasBit(bit)) {
            return BAD;
        }
        return pages[page].turn(bit);
    }

    public int stick(int page, int bit, int v) {
        if (!opened) {
            return CLOSED;
        }
        if (!hasPage(page) || !hasBit(bit) || v < NONE || v > 1) {
            return BAD;
        }
        pages[page].hold(bit, v);
        return pages[page].stuck.ones();
    }

    public int mark(int page, int bit, boolean marked) {
        if (!opened) {
            return CLOSED;
        }
        if (!hasPage(page) || !hasBit(bit)) {
            return BAD;
        }
        pages[page].marks.set(bit, marked ? 1 : 0);
        return pages[page].marks.ones();
    }

    public int bit(int page, int bit) {
        if (!opened) {
            return CLOSED;
        }
        if (!hasPage(page) || !hasBit(bit)) {
            return BAD;
        }
        return pages[page].bits.at(bit);
    }

    public int read(int page) {
        if (!opened) {
            return CLOSED;
        }
        if (!hasPage(page)) {
            return BAD;
        }
        int others = mender.mend(pages[page]);
        if (others == LOST) {
            readsLost++;
            return LOST;
        }
        if (others == 0) {
            readsRight++;
        } else {
            readsMended++;
        }
        buffer.become(mender.word);
        turnedBits.becomeDifference(mender.word, pages[page].bits);
        return others;
    }

    public int turned(int i) {
        int before = 0;
        for (int k = 0; k < code.n; k++) {
            if (turnedBits.at(k) == 1) {
                if (before == i) {
                    return k;
                }
                before++;
            }
        }
        return NONE;
    }

    public int syndrome(int page, int i) {
        if (!opened) {
            return CLOSED;
        }
        if (!hasPage(page) || i < 1 || i > 2 * code.t) {
            return BAD;
        }
        code.divide(pages[page].bits);
        return code.restAt(i);
    }

    public int copy(int from, int to) {
        if (!opened) {
            return CLOSED;
        }
        if (!hasPage(from) || !hasPage(to)) {
            return BAD;
        }
        if (mender.mend(pages[from]) == LOST) {
            return LOST;
        }
        return rewrite(pages[to]);
    }

    public int refresh(int most) {
        if (!opened) {
            return CLOSED;
        }
        if (most < 0 || most > MOST_TO_REFRESH) {
            return BAD;
        }
        int many = 0;
        for (int i = 0; i < PAGES; i++) {
            int others = mender.mend(pages[i]);
            if (others != LOST && others >= most) {
                rewrite(pages[i]);
                many++;
            }
        }
        return many;
    }

    public int told(int page, int what) {
        if (!opened) {
            return CLOSED;
        }
        if (!hasPage(page) || what < 0 || what > 3 + PAGES) {
            return BAD;
        }
        Page one = pages[page];
        switch (what) {
            case 0:
                return one.wear;
            case 1:
                return one.marks.ones();
            case 2:
                return one.stuck.ones();
            case 3:
                return code.n - one.bits.ones();
            default:
                return one.bits.apart(pages[(page + what - 4) & (PAGES - 1)].bits);
        }
    }

    public int about(int what) {
        if (!opened) {
            return CLOSED;
        }
        switch (what) {
            case 0:
                return field.m;
            case 1:
                return code.t;
            case 2:
                return code.d;
            case 3:
                return code.r;
            case 4:
                return code.n;
            case 5:
                return readsMended;
            case 6:
                return readsRight;
            case 7:
                return readsLost;
            default:
                return BAD;
        }
    }

    private boolean hasByte(int i) {
        return i >= 0 && i < code.d;
    }

    private boolean hasPage(int page) {
        return page >= 0 && page < PAGES;
    }

    private boolean hasBit(int bit) {
        return bit >= 0 && bit < code.n;
    }

    /** A page is ERASED and PROGRAMMED with what was MENDED last: how many bits it has otherwise. */
    private int rewrite(Page page) {
        page.wipe(code.ones);
        return page.program(mender.word);
    }

    /** As many bits as the longest word has; those beyond the present N are 0 in every row. */
    private static final class Row {
        final long[] longs = new long[LONGS];

        int at(int k) {
            return (int) (longs[k >> 6] >>> (63 - (k & 63))) & 1;
        }

        void set(int k, int v) {
            long one = 1L << (63 - (k & 63));
            if (v == 0) {
                longs[k >> 6] &= ~one;
            } else {
                longs[k >> 6] |= one;
            }
        }

        int byteAt(int i) {
            return (int) (longs[i >> 3] >>> (56 - 8 * (i & 7))) & 255;
        }

        void setByte(int i, int b) {
            int up = 56 - 8 * (i & 7);
            longs[i >> 3] = longs[i >> 3] & ~(255L << up) | (long) b << up;
        }

        int ones() {
            int many = 0;
            for (int i = 0; i < LONGS; i++) {
                many += Long.bitCount(longs[i]);
            }
            return many;
        }

        int apart(Row other) {
            int many = 0;
            for (int i = 0; i < LONGS; i++) {
                many += Long.bitCount(longs[i] ^ other.longs[i]);
            }
            return many;
        }

        void clear() {
            Arrays.fill(longs, 0L);
        }

        void become(Row other) {
            System.arraycopy(other.longs, 0, longs, 0, LONGS);
        }

        void becomeDifference(Row a, Row b) {
            for (int i = 0; i < LONGS; i++) {
                longs[i] = a.longs[i] ^ b.longs[i];
            }
        }

        void becomeFirstOnes(int many) {
            clear();
            for (int k = 0; k < many; k++) {
                set(k, 1);
            }
        }
    }

    /** One page of the chip. */
    private static final class Page {
        final Row bits = new Row();
        final Row stuck = new Row();
        final Row marks = new Row();
        int wear;

        void renew(Row ones) {
            stuck.clear();
            marks.clear();
            bits.become(ones);
            wear = 0;
        }

        void wipe(Row ones) {
            for (int i = 0; i < LONGS; i++) {
                bits.longs[i] |= ones.longs[i] & ~stuck.longs[i];
            }
            marks.clear();
            wear++;
        }

        /** How many bits are not those of the word then. */
        int program(Row word) {
            for (int i = 0; i < LONGS; i++) {
                bits.longs[i] &= word.longs[i] | stuck.longs[i];
            }
            return bits.apart(word);
        }

        int turn(int k) {
            if (stuck.at(k) == 0) {
                bits.set(k, 1 - bits.at(k));
            }
            return bits.at(k);
        }

        void hold(int k, int v) {
            if (v == NONE) {
                stuck.set(k, 0);
            } else {
                stuck.set(k, 1);
                bits.set(k, v);
            }
        }
    }

    /** Which powers of A are roots of the same polynomials: their exponents, doubled again and again. */
    private static final class Cosets {
        /** The exponent 0 .. order - 1 of the same power; without a field there is only 0. */
        static int reduced(int i, int order) {
            return order < 1 ? 0 : Math.floorMod(i, order);
        }

        static int doubled(int e, int order) {
            return 2 * e >= order ? 2 * e - order : 2 * e;
        }

        /** How many exponents there are, and so the degree of THE MINIMAL POLYNOMIAL. */
        static int size(int i, int m) {
            int order = (1 << m) - 1;
            int start = reduced(i, order);
            int e = doubled(start, order);
            int many = 1;
            while (e != start && many < m) {
                e = doubled(e, order);
                many++;
            }
            return many;
        }

        static int least(int i, int m) {
            int order = (1 << m) - 1;
            int e = reduced(i, order);
            int least = e;
            for (int step = 1; step < m; step++) {
                e = doubled(e, order);
                least = Math.min(least, e);
            }
            return least;
        }

        /** Of odd exponents: even ones have the same polynomial as their half. */
        static boolean isNew(int i, int m) {
            int least = least(i, m);
            for (int before = 1; before < i; before += 2) {
                if (least(before, m) == least) {
                    return false;
                }
            }
            return true;
        }

        static int tailLength(int m, int t) {
            int sum = 0;
            for (int i = 1; i < 2 * t; i += 2) {
                if (isNew(i, m)) {
                    sum += size(i, m);
                }
            }
            return sum;
        }
    }

    /** The numbers of THE FIELD, by the powers of A. */
    private static final class Field {
        private static final int[] POLYNOMIALS = {
            11, 19, 37, 67, 137, 285, 529, 1033, 2053, 4179, 8219
        };

        final int[] powers = new int[1 << MOST_M];
        final int[] logs = new int[1 << MOST_M];
        final int[] coefficients = new int[MOST_M + 1];
        int m;
        /** How many powers of A there are. */
        int order;

        void become(int newM) {
            // The tables are the dearest part of open(), and depend on M alone.
            if (newM == m) {
                return;
            }
            m = newM;
            order = (1 << newM) - 1;
            int polynomial = POLYNOMIALS[newM - LEAST_M];
            int a = 1;
            for (int i = 0; i < order; i++) {
                powers[i] = a;
                logs[a] = i;
                a <<= 1;
                if (a > order) {
                    a ^= polynomial;
                }
            }
        }

        boolean has(int a) {
            return a >= 0 && a <= order;
        }

        int powerOfA(int i) {
            return powers[Cosets.reduced(i, order)];
        }

        int product(int a, int b) {
            if (a == 0 || b == 0) {
                return 0;
            }
            int sum = logs[a] + logs[b];
            return powers[sum >= order ? sum - order : sum];
        }

        int reciprocal(int a) {
            int log = logs[a];
            return powers[log == 0 ? 0 : order - log];
        }

        /** The product of x + A^e for all e that are i, doubled again and again. */
        int minimalPolynomial(int i) {
            int degree = Cosets.size(i, m);
            Arrays.fill(coefficients, 0);
            coefficients[0] = 1;
            int e = Cosets.reduced(i, order);
            for (int roots = 0; roots < degree; roots++) {
                multiplyByRoot(powers[e], roots);
                e = Cosets.doubled(e, order);
            }
            int number = 0;
            for (int k = 0; k <= degree; k++) {
                number |= coefficients[k] << k;
            }
            return number;
        }

        private void multiplyByRoot(int root, int degree) {
            for (int k = degree + 1; k > 0; k--) {
                coefficients[k] = coefficients[k - 1] ^ product(coefficients[k], root);
            }
            coefficients[0] = product(coefficients[0], root);
        }
    }

    /** THE CODE (M, T, D): its GENERATOR, and what words leave when they are divided by it. */
    private static final class Code {
        final Field field;
        final int[] polynomial = new int[MOST_R + 1];
        /** What eight steps add to the register, by the eight bits that leave it. */
        final long[] highSteps = new long[256];
        final long[] lowSteps = new long[256];
        /** What the turned bits of a word leave: rest[p] is that of x^p. */
        final int[] rest = new int[MOST_R];
        final Row ones = new Row();
        int t;
        int d;
        int r;
        int n;
        /** The register has the highest power of x at the highest bit of high, whatever R is. */
        long high;
        long low;

        Code(Field itsField) {
            field = itsField;
        }

        void become(int newT, int newD) {
            t = newT;
            d = newD;
            makePolynomial();
            n = 8 * d + r;
            ones.becomeFirstOnes(n);
            makeSteps();
        }

        private void makePolynomial() {
            Arrays.fill(polynomial, 0);
            polynomial[0] = 1;
            r = 0;
            for (int i = 1; i < 2 * t; i += 2) {
                if (Cosets.isNew(i, field.m)) {
                    multiplyBy(field.minimalPolynomial(i), Cosets.size(i, field.m));
                }
            }
        }

        /** From the highest power down, so that no term is met again after it was moved. */
        private void multiplyBy(int factor, int degree) {
            for (int k = r; k >= 0; k--) {
                if (polynomial[k] == 1) {
                    polynomial[k] = 0;
                    for (int j = 0; j <= degree; j++) {
                        polynomial[k + j] ^= factor >> j & 1;
                    }
                }
            }
            r += degree;
        }

        private void makeSteps() {
            loadPolynomial();
            long highPolynomial = high;
            long lowPolynomial = low;
            for (int bit = 1; bit < 256; bit <<= 1) {
                for (int less = 0; less < bit; less++) {
                    highSteps[bit + less] = high ^ highSteps[less];
                    lowSteps[bit + less] = low ^ lowSteps[less];
                }
                boolean leaves = high < 0;
                high = high << 1 | low >>> 63;
                low <<= 1;
                if (leaves) {
                    high ^= highPolynomial;
                    low ^= lowPolynomial;
                }
            }
        }

        private void loadPolynomial() {
            high = 0;
            low = 0;
            for (int q = 0; q < r; q++) {
                long bit = polynomial[r - 1 - q];
                if (q < 64) {
                    high |= bit << (63 - q);
                } else {
                    low |= bit << (127 - q);
                }
            }
        }

        /** The register gets what the DATA, each bit turned and moved up by R, leave. */
        private void takeData(Row word) {
            high = 0;
            low = 0;
            for (int i = 0; i < d; i++) {
                int leaves = (int) (high >>> 56) ^ 255 ^ word.byteAt(i);
                high = (high << 8 | low >>> 56) ^ highSteps[leaves];
                low = low << 8 ^ lowSteps[leaves];
            }
        }

        private int registerAt(int q) {
            return (int) (q < 64 ? high >>> (63 - q) : low >>> (127 - q)) & 1;
        }

        /** Gives the word the TAIL that is RIGHT for its DATA. */
        void complete(Row word) {
            takeData(word);
            for (int q = 0; q < r; q++) {
                word.set(8 * d + q, 1 - registerAt(q));
            }
        }

        /** Takes the rest of a word: whether there is none, and the word is RIGHT. */
        boolean divide(Row word) {
            takeData(word);
            boolean none = true;
            for (int q = 0; q < r; q++) {
                int left = registerAt(q) ^ 1 ^ word.at(8 * d + q);
                rest[r - 1 - q] = left;
                none = none && left == 0;
            }
            return none;
        }

        /** At a root of THE GENERATOR the rest has the value of the whole polynomial. */
        int restAt(int i) {
            int order = field.order;
            int step = Cosets.reduced(i, order);
            int sum = 0;
            int e = 0;
            for (int p = 0; p < r; p++) {
                if (rest[p] == 1) {
                    sum ^= field.powers[e];
                }
                e = e + step >= order ? e + step - order : e + step;
            }
            return sum;
        }
    }

    /** Finds the RIGHT word that a page's word is MENDED to. */
    private static final class Mender {
        final Field field;
        final Code code;
        final Row word = new Row();
        final int[] syndromes = new int[2 * MOST_T + 1];
        /** Its roots are A^-p for each x^p at which a bit is wrong. */
        final int[] locator = new int[2 * MOST_T + 1];
        final int[] earlier = new int[2 * MOST_T + 1];
        final int[] spare = new int[2 * MOST_T + 1];
        final int[] logs = new int[MOST_T + 1];
        final int[] wrong = new int[MOST_T];

        Mender(Field itsField, Code itsCode) {
            field = itsField;
            code = itsCode;
        }

        /** How many bits are other ones in the RIGHT word, which word is then; or LOST. */
        int mend(Page page) {
            int doubtful = page.marks.ones();
            if (doubtful > 2 * code.t) {
                return LOST;
            }
            // With all marked bits 0, or else all 1, at most half of them are wrong: then all
            // wrong bits are T at most, and the word is found without a look at the marks.
            boolean mended = isMended(page, false, doubtful)
                || (doubtful > 0 && isMended(page, true, doubtful));
            return mended ? word.apart(page.bits) : LOST;
        }

        private boolean isMended(Page page, boolean marksAreOnes, int doubtful) {
            for (int i = 0; i < LONGS; i++) {
                long marks = page.marks.longs[i];
                long bits = page.bits.longs[i];
                word.longs[i] = marksAreOnes ? bits | marks : bits & ~marks;
            }
            return becomesRight() && 2 * apartBesidesMarks(page) + doubtful <= 2 * code.t;
        }

        private int apartBesidesMarks(Page page) {
            int many = 0;
            for (int i = 0; i < LONGS; i++) {
                many += Long.bitCount((word.longs[i] ^ page.bits.longs[i]) & ~page.marks.longs[i]);
            }
            return many;
        }

        /** The word becomes the RIGHT one from which it is T bits apart at most, if there is one. */
        private boolean becomesRight() {
            if (code.divide(word)) {
                return true;
            }
            takeSyndromes();
            int many = locate();
            if (many > code.t || !findWrong(many)) {
                return false;
            }
            for (int i = 0; i < many; i++) {
                word.set(wrong[i], 1 - word.at(wrong[i]));
            }
            return true;
        }

        /** Over bits the value at a square is the square of the value. */
        private void takeSyndromes() {
            for (int i = 1; i <= 2 * code.t; i++) {
                int half = syndromes[i >> 1];
                syndromes[i] = (i & 1) == 1 ? code.restAt(i) : field.product(half, half);
            }
        }

        /** The shortest recurrence of the syndromes, by Berlekamp and Massey: its length. */
        private int locate() {
            Arrays.fill(locator, 0);
            Arrays.fill(earlier, 0);
            locator[0] = 1;
            earlier[0] = 1;
            int length = 0;
            int lag = 1;
            int earlierMiss = 1;
            for (int i = 0; i < 2 * code.t; i++) {
                int miss = missAt(i + 1, length);
                if (miss == 0) {
                    lag++;
                    continue;
                }
                int scale = field.product(miss, field.reciprocal(earlierMiss));
                System.arraycopy(locator, 0, spare, 0, spare.length);
                addEarlier(scale, lag);
                if (2 * length <= i) {
                    length = i + 1 - length;
                    System.arraycopy(spare, 0, earlier, 0, spare.length);
                    earlierMiss = miss;
                    lag = 1;
                } else {
                    lag++;
                }
            }
            return length;
        }

        private int missAt(int i, int length) {
            int sum = syndromes[i];
            for (int k = 1; k <= length && k < i; k++) {
                sum ^= field.product(locator[k], syndromes[i - k]);
            }
            return sum;
        }

        private void addEarlier(int scale, int lag) {
            for (int k = lag; k < locator.length; k++) {
                locator[k] ^= field.product(scale, earlier[k - lag]);
            }
        }

        /** Tries every bit of the word: whether as many are wrong as the locator should tell. */
        private boolean findWrong(int many) {
            for (int k = 1; k <= many; k++) {
                logs[k] = locator[k] == 0 ? NONE
                    : Cosets.reduced(field.logs[locator[k]] - k * (code.n - 1), field.order);
            }
            int found = 0;
            for (int bit = 0; bit < code.n && found < many; bit++) {
                if (locatorIsZero(many)) {
                    wrong[found] = bit;
                    found++;
                }
            }
            return found == many;
        }

        /** At the present bit; the logs move on to the next one, which is a power of x lower. */
        private boolean locatorIsZero(int many) {
            int sum = 1;
            for (int k = 1; k <= many; k++) {
                if (logs[k] != NONE) {
                    sum ^= field.powers[logs[k]];
                    logs[k] += k;
                    if (logs[k] >= field.order) {
                        logs[k] -= field.order;
                    }
                }
            }
            return sum == 0;
        }
    }
}
