import java.util.Arrays;
import java.util.HashSet;
import java.util.Set;

/** The sentences of "Terms" that name a boundary, each quoted over the test that holds it. */
public final class TermsTest {
    private static final int NONE = PageMender.NONE;
    private static final int BAD = PageMender.BAD;
    private static final int LOST = PageMender.LOST;
    private static final int[] F = {11, 19, 37, 67, 137, 285, 529, 1033, 2053, 4179, 8219};
    /** Codes whose words have just 2^M - 1 bits, and some whose words have fewer. */
    private static final int[][] FULL = {{5, 3, 2}, {6, 7, 3}, {7, 1, 15}, {9, 7, 56}, {11, 5, 249}};
    private static final int[][] SHORTER = {{4, 1, 1}, {5, 2, 2}, {5, 5, 1}, {6, 8, 2}, {8, 8, 23}, {10, 4, 9}, {13, 5, 3}, {13, 8, 256}};
    private static final Check CHECK = new Check("TermsTest");

    public static void main(String[] args) {
        fieldSizes();
        numbersOfTheField();
        productsLessMultiples();
        allNumbersButZero();
        minimalOfLeastDegree();
        rangeOfT();
        generatorOfLeastDegree();
        rangeOfD();
        wordsThatJustFit();
        numbersOfBits();
        placesOfBits();
        onesAreRight();
        oneTailForEach();
        apartByNoneAndAll();
        nearEnough();
        noWordIsLost();
        wrongBeyondTheWord();
        everyThreeBits();
        oneWordAtMost();
        syndromesOfTurnedBits();
        sixteenPages();
        programmedBitsNeverRise();
        stuckWhateverIsDone();
        wearIsHowOftenErased();
        bufferAtFirst();
        constants();
        CHECK.end();
    }

    private static PageMender opened(int... c) {
        PageMender x = new PageMender();
        x.open(c[0], c[1], c[2]);
        return x;
    }

    private static String name(int... c) {
        return "(" + c[0] + ", " + c[1] + ", " + c[2] + ")";
    }

    /** "THE FIELD of 2^M numbers, M 3 .. 13". With M = 3 no byte has room: 8 D is above 7. */
    private static void fieldSizes() {
        for (int t = 1; t <= 8; t++) {
            CHECK.due("M = 2, T = " + t, new PageMender().open(2, t, 1), BAD);
            CHECK.due("M = 3, T = " + t, new PageMender().open(3, t, 1), BAD);
            CHECK.due("M = 14, T = " + t, new PageMender().open(14, t, 1), BAD);
        }
        CHECK.due("M = 4", new PageMender().open(4, 1, 1), 4);
        CHECK.due("M = 13", new PageMender().open(13, 1, 1), 13);
    }

    /** "numbers 0 .. 2^M - 1" */
    private static void numbersOfTheField() {
        for (int m = 4; m <= 13; m++) {
            PageMender x = opened(m, 1, 1);
            int top = (1 << m) - 1;
            CHECK.due("0 is a number, M = " + m, x.times(0, 1), 0);
            CHECK.due("the last number, M = " + m, x.times(top, 1), top);
            CHECK.due("one below, M = " + m, x.times(-1, 1), BAD);
            CHECK.due("one above, M = " + m, x.times(top + 1, 1), BAD);
        }
    }

    /** "products are those of polynomials, less multiples of F" */
    private static void productsLessMultiples() {
        for (int m = 4; m <= 13; m++) {
            PageMender x = opened(m, 1, 1);
            int high = 1 << (m - 1);
            int top = (1 << m) - 1;
            CHECK.due("just below x^M, M = " + m, x.times(2, high >> 1), high);
            CHECK.due("x^M is F less x^M, M = " + m, x.times(2, high), F[m - 3] ^ 1 << m);
            CHECK.due("of the highest ones, M = " + m, x.times(high, high), Model.mul(high, high, m));
            CHECK.due("of the largest ones, M = " + m, x.times(top, top), Model.mul(top, top, m));
        }
    }

    /** "A is the number 2; its powers from 0 to 2^M - 2 are all numbers but 0." */
    private static void allNumbersButZero() {
        for (int m = 4; m <= 13; m++) {
            int order = (1 << m) - 1;
            Set<Integer> met = new HashSet<>();
            PageMender x = opened(m, 1, 1);
            CHECK.due("A, M = " + m, x.power(1), 2);
            for (int i = 0; i < order; i++) {
                if (i % 500 == 499) {
                    x = opened(m, 1, 1);
                }
                int a = x.power(i);
                CHECK.holds("A^" + i + " is a number, M = " + m, a > 0 && a <= order);
                met.add(a);
            }
            CHECK.due("all of them, M = " + m, met.size(), order);
            CHECK.due("the next one is the first, M = " + m, x.power(order), 1);
        }
    }

    /** "of least degree that is not 0 and has A^i as a root": lower than M within a smaller field. */
    private static void minimalOfLeastDegree() {
        int[][] withDegrees = {
            {4, 0, 1}, {4, 5, 2}, {4, 10, 2}, {4, 3, 4}, {6, 21, 2}, {6, 9, 3}, {6, 54, 3}, {6, 7, 6}, {8, 85, 2},
            {8, 17, 4}, {8, 238, 4}, {9, 73, 3}, {10, 341, 2}, {10, 33, 5}, {12, 1365, 2}, {12, 585, 3}, {12, 273, 4},
            {12, 65, 6}, {12, 4030, 6}, {12, 5, 12}, {13, 0, 1}, {13, 1, 13}, {13, 8190, 13}
        };
        for (int[] one : withDegrees) {
            int got = opened(one[0], 1, 1).minimal(one[1]);
            String what = "minimal(" + one[1] + "), M = " + one[0];
            CHECK.due(what, got, Model.minimalOf(one[1], one[0]));
            CHECK.due(what + " has the degree", 31 - Integer.numberOfLeadingZeros(got), one[2]);
        }
    }

    /** "THE GENERATOR for T (1 .. 8)" */
    private static void rangeOfT() {
        for (int m = 4; m <= 13; m++) {
            CHECK.due("T = 0, M = " + m, new PageMender().open(m, 0, 1), BAD);
            CHECK.due("T = 9, M = " + m, new PageMender().open(m, 9, 1), BAD);
            PageMender x = opened(m, 1, 1);
            for (int i = 0; i <= m + 1; i++) {
                CHECK.due("T = 1 has F, M = " + m + ", bit " + i, x.generator(i), F[m - 3] >> i & 1);
            }
        }
        CHECK.due("T = 8", new PageMender().open(13, 8, 1), 8 * 13);
    }

    /** "of least degree .. and has A^1, A^2, .., A^(2 T) as roots": one factor for roots that share it. */
    private static void generatorOfLeastDegree() {
        CHECK.due("A^9 has the factor of A^5", opened(5, 5, 1).about(3), opened(5, 4, 1).about(3));
        CHECK.due("A^9 has a factor of degree 3", opened(6, 5, 1).about(3), 27);
        CHECK.due("the most roots, M = 6", opened(6, 8, 2).about(3), 45);
        for (int m = 4; m <= 13; m++) {
            for (int t = 1; t <= 8; t++) {
                int[] g = Model.generatorOf(m, t);
                PageMender x = new PageMender();
                if (8 + g.length - 1 >= 1 << m) {
                    CHECK.due("no room for a byte: " + name(m, t, 1), x.open(m, t, 1), BAD);
                    continue;
                }
                CHECK.due("R of " + name(m, t, 1), x.open(m, t, 1), g.length - 1);
                for (int i = 0; i < g.length; i++) {
                    CHECK.due("generator(" + i + ") of " + name(m, t, 1), x.generator(i), g[i]);
                }
            }
        }
    }

    /** "D bytes of DATA, 1 .. 256, with 8 D + R at most 2^M - 1": every M, T and D. */
    private static void rangeOfD() {
        for (int m = 3; m <= 13; m++) {
            for (int t = 1; t <= 8; t++) {
                int r = Model.generatorOf(m, t).length - 1;
                PageMender x = new PageMender();
                for (int d = 0; d <= 257; d++) {
                    boolean fits = d >= 1 && d <= 256 && 8 * d + r <= (1 << m) - 1;
                    CHECK.due("open" + name(m, t, d), x.open(m, t, d), fits ? r : BAD);
                }
            }
        }
    }

    private static void wordsThatJustFit() {
        for (int[] c : FULL) {
            PageMender x = new PageMender();
            CHECK.holds("it fits: " + name(c), x.open(c[0], c[1], c[2]) > 0);
            CHECK.due("it is full: " + name(c), x.about(4), (1 << c[0]) - 1);
            CHECK.due("one byte more: " + name(c), x.open(c[0], c[1], c[2] + 1), BAD);
        }
    }

    /** "bit 8 i + j is bit 7 - j of DATA byte i, the R others are its TAIL" */
    private static void numbersOfBits() {
        for (int k = 0; k < 96; k++) {
            PageMender x = opened(9, 2, 12);
            x.put(k / 8, 1 << (7 - k % 8));
            x.write(0);
            for (int other = 0; other < 96; other++) {
                CHECK.due("bit " + other + " with bit " + k + " alone", x.bit(0, other), other == k ? 1 : 0);
            }
            for (int i = 0; i < 18; i++) {
                CHECK.due("tail bit " + i + " with bit " + k + " alone", x.bit(0, 96 + i), x.tail(i));
            }
            CHECK.due("the bit before the first", x.bit(0, -1), BAD);
            CHECK.due("the bit after the last", x.bit(0, 114), BAD);
        }
    }

    /** "Its polynomial has bit k at x^(N - 1 - k)": the first bit, the last, and where the TAIL begins. */
    private static void placesOfBits() {
        for (int[][] codes : new int[][][] {FULL, SHORTER}) {
            for (int[] c : codes) {
                int n = opened(c).about(4);
                for (int k : new int[] {0, 1, 8 * c[2] - 1, 8 * c[2], n - 2, n - 1}) {
                    PageMender x = opened(c);
                    x.flip(0, k);
                    for (int i = 1; i <= 2 * c[1]; i++) {
                        String what = name(c) + " bit " + k + ", syndrome " + i;
                        CHECK.due(what, x.syndrome(0, i), x.power(i * (n - 1 - k)));
                    }
                }
            }
        }
    }

    /** "(so the word of ones is RIGHT)" */
    private static void onesAreRight() {
        for (int[][] codes : new int[][][] {FULL, SHORTER}) {
            for (int[] c : codes) {
                PageMender x = opened(c);
                CHECK.due(name(c) + " read at first", x.read(0), 0);
                for (int i = 0; i < c[2]; i++) {
                    CHECK.due(name(c) + " byte " + i, x.get(i), 255);
                }
                for (int i = 0; i < x.about(3); i++) {
                    CHECK.due(name(c) + " tail bit " + i, x.tail(i), 1);
                }
                CHECK.due(name(c) + " written", x.write(1), 0);
                CHECK.due(name(c) + " no bit is 0", x.told(1, 3), 0);
            }
        }
    }

    /** "Each DATA have one TAIL that is RIGHT": of the 16 tails, for each byte of (4, 1, 1). */
    private static void oneTailForEach() {
        for (int data = 0; data < 256; data++) {
            PageMender x = opened(4, 1, 1);
            x.put(0, data);
            int right = 0;
            for (int tail = 0; tail < 16; tail++) {
                int word = data << 4 | tail;
                boolean isTail = true;
                for (int k = 0; k < 12; k++) {
                    if ((word >> (11 - k) & 1) == 0) {
                        x.flip(tail, k);
                    }
                }
                for (int i = 0; i < 4; i++) {
                    isTail = isTail && x.tail(i) == (tail >> (3 - i) & 1);
                }
                boolean isRight = x.syndrome(tail, 1) == 0 && x.syndrome(tail, 2) == 0;
                CHECK.due("tail " + tail + " of " + data + " is RIGHT", isRight ? 1 : 0, isTail ? 1 : 0);
                right += isRight ? 1 : 0;
            }
            CHECK.due("RIGHT tails of " + data, right, 1);
        }
    }

    /** "TWO WORDS are APART by how many bits they differ in": from none to all. */
    private static void apartByNoneAndAll() {
        PageMender x = opened(5, 3, 2);
        for (int k = 0; k < 31; k++) {
            CHECK.due("apart by " + k, x.told(0, 5), k);
            CHECK.due("seen from the other", x.told(1, 19), k);
            x.flip(0, k);
        }
        CHECK.due("apart by all", x.told(0, 5), 31);
        CHECK.due("from itself", x.told(0, 4), 0);
    }

    /**
     * "MENDED to the RIGHT word c, if twice the number of bits without MARKS in which they differ,
     * and E, are together 2 T at most .. else it is LOST": at 2 T and just above, for every E.
     */
    private static void nearEnough() {
        for (int[] c : new int[][] {{4, 1, 1}, {5, 2, 2}, {5, 3, 2}, {5, 5, 1}, {6, 7, 1}, {6, 8, 2}, {8, 6, 2}, {13, 8, 1}}) {
            // It keeps its RIGHT words as long as it is opened with the same code.
            Model y = new Model();
            for (int marks = 0; marks <= 2 * c[1] + 2; marks++) {
                int most = Math.max(0, (2 * c[1] - marks) / 2);
                for (int beside = most; beside <= most + 2; beside++) {
                    for (int turned : new int[] {0, marks / 2, marks}) {
                        atTheEdge(y, c, marks, turned, beside);
                    }
                }
            }
        }
        for (int[] c : new int[][] {{9, 7, 56}, {8, 8, 23}, {11, 5, 249}, {13, 8, 256}}) {
            for (int marks = 0; marks <= 2 * c[1] + 1; marks++) {
                inLongWords(c, marks);
            }
        }
    }

    /** Marks, of which some bits are turned, and turned bits beside them; the model says what is due. */
    private static void atTheEdge(Model y, int[] c, int marks, int turned, int beside) {
        PageMender x = opened(c);
        y.open(c[0], c[1], c[2]);
        x.put(0, 0x6B);
        y.put(0, 0x6B);
        x.write(0);
        y.write(0);
        int n = y.n;
        for (int j = 0; j < marks + beside && j < n; j++) {
            // 5 shares no factor with any of these N, so no bit comes twice.
            int k = 5 * j % n;
            if (j < marks) {
                x.mark(0, k, true);
                y.mark(0, k, true);
            }
            if (j < turned || j >= marks) {
                x.flip(0, k);
                y.flip(0, k);
            }
        }
        x.put(0, 1);
        y.put(0, 1);
        String what = name(c) + " with " + marks + " marks, " + turned + " of them turned, and " + beside + " others";
        int got = x.read(0);
        CHECK.due(what, got, y.read(0));
        CHECK.due(what + ": the buffer", x.get(0), y.get(0));
        if (2 * beside + marks <= 2 * c[1]) {
            CHECK.due(what + ": near enough", got, turned + beside);
            CHECK.due(what + ": comes back", x.get(0), 0x6B);
        } else {
            CHECK.holds(what + ": too far to come back", got == LOST || x.get(0) != 0x6B);
        }
        if (marks > 2 * c[1]) {
            CHECK.due(what + ": too many marks", got, LOST);
        }
    }

    private static void inLongWords(int[] c, int marks) {
        for (int more = 0; more <= 1; more++) {
            int beside = Math.max(0, (2 * c[1] - marks) / 2) + more;
            PageMender x = opened(c);
            x.fill(c[2] - 1, 0x6BL << 56);
            x.write(15);
            int n = x.about(4);
            for (int j = 0; j < marks + beside; j++) {
                int k = n - 1 - 5 * j;
                if (j < marks) {
                    x.mark(15, k, true);
                }
                if (j % 2 == 0 || j >= marks) {
                    x.flip(15, k);
                }
            }
            x.fill(c[2] - 1, 0L);
            String what = name(c) + " with " + marks + " marks and " + beside + " others";
            int got = x.read(15);
            if (2 * beside + marks <= 2 * c[1]) {
                CHECK.due(what, got, (marks + 1) / 2 + beside);
                CHECK.due(what + " comes back", x.get(c[2] - 1), 0x6B);
            } else {
                CHECK.due(what, got, LOST);
                CHECK.due(what + " leaves the buffer", x.get(c[2] - 1), 0);
            }
        }
    }

    /** With T = 1 and a full word, each word is RIGHT or beside a RIGHT one: two wrong bits become three. */
    private static void noWordIsLost() {
        for (int k = 0; k < 126; k++) {
            PageMender x = opened(7, 1, 15);
            x.flip(0, k);
            CHECK.due("bit " + k + " alone", x.read(0), 1);
            CHECK.due("bit " + k + " alone is turned", x.turned(0), k);
            x.flip(0, 126);
            CHECK.due("bits " + k + " and 126", x.read(0), 1);
            int third = x.turned(0);
            CHECK.holds("a third bit is turned", third >= 0 && third != k && third != 126);
            x.mark(0, k, true);
            x.mark(0, 126, true);
            CHECK.due("both marked", x.read(0), 2);
            x.mark(0, third, true);
            CHECK.due("all three marked", x.read(0), LOST);
        }
    }

    /**
     * "A WORD has N .. bits": two wrong bits of (4, 1, 1) look like one at x^e; x^12, x^13 and x^14
     * are none of its 12 bits, so nothing can be turned there, and the word is LOST.
     */
    private static void wrongBeyondTheWord() {
        Set<Integer> beyond = new HashSet<>();
        for (int a = 0; a < 12; a++) {
            for (int b = 0; b < a; b++) {
                PageMender x = opened(4, 1, 1);
                x.flip(0, a);
                x.flip(0, b);
                int e = x.log(x.syndrome(0, 1));
                String what = "bits " + a + " and " + b + ", which look like x^" + e;
                CHECK.due(what, x.read(0), e < 12 ? 1 : LOST);
                CHECK.due(what + ", turned", x.turned(0), e < 12 ? 11 - e : NONE);
                if (e >= 12) {
                    beyond.add(e);
                }
            }
        }
        CHECK.due("all three were met", beyond.size(), 3);
    }

    /** One bit more than T of a word, every choice of them: LOST, or near another RIGHT word. */
    private static void everyThreeBits() {
        Model y = new Model();
        int n = 8 + y.open(5, 2, 1);
        for (int a = 0; a < n; a++) {
            for (int b = 0; b < a; b++) {
                for (int c = 0; c < b; c++) {
                    PageMender x = opened(5, 2, 1);
                    y.open(5, 2, 1);
                    for (int k : new int[] {a, b, c}) {
                        x.flip(0, k);
                        y.flip(0, k);
                    }
                    String what = "bits " + a + ", " + b + ", " + c;
                    CHECK.due(what, x.read(0), y.read(0));
                    CHECK.due(what + ": the buffer", x.get(0), y.get(0));
                    for (int i = 0; i < 3; i++) {
                        CHECK.due(what + ": turned(" + i + ")", x.turned(i), y.turned(i));
                    }
                }
            }
        }
    }

    /** "(there is one such c at most)": with E = 2 T, whatever the marked bits are. */
    private static void oneWordAtMost() {
        int[] marked = {0, 5, 15, 16, 22, 30};
        for (int which = 0; which < 64; which++) {
            PageMender x = opened(5, 3, 2);
            x.fill(0, 0xC35AL << 48);
            x.write(0);
            for (int j = 0; j < 6; j++) {
                x.mark(0, marked[j], true);
                if ((which >> j & 1) == 1) {
                    x.flip(0, marked[j]);
                }
            }
            CHECK.due("six marks, turned " + which, x.read(0), Integer.bitCount(which));
            CHECK.due("six marks, turned " + which + ": byte 0", x.get(0), 0xC3);
            CHECK.due("six marks, turned " + which + ": byte 1", x.get(1), 0x5A);
        }
    }

    /** "each bit turned (0 for 1)": of a full word of zeros the powers of A add up to 0, of a shorter one not. */
    private static void syndromesOfTurnedBits() {
        for (int[] c : new int[][] {{5, 3, 2}, {5, 2, 2}, {4, 1, 1}}) {
            PageMender x = opened(c);
            int n = x.about(4);
            for (int k = 0; k < n; k++) {
                x.flip(0, k);
            }
            for (int i = 1; i <= 2 * c[1]; i++) {
                int sum = 0;
                for (int e = 0; e < n; e++) {
                    sum ^= Model.powerOf(e * i, c[0]);
                }
                CHECK.due(name(c) + " of zeros, syndrome " + i, x.syndrome(0, i), sum);
                CHECK.due(name(c) + " of ones, syndrome " + i, x.syndrome(1, i), 0);
            }
        }
        PageMender x = opened(5, 3, 2);
        for (int k = 0; k < 31; k++) {
            x.flip(0, k);
        }
        CHECK.due("a full word of zeros is RIGHT", x.read(0), 0);
        CHECK.due("its data", x.get(0) + x.get(1), 0);
    }

    /** "THE CHIP has 16 PAGES, each of one word, at first ERASED: all its bits are 1." */
    private static void sixteenPages() {
        for (int page = 0; page < 16; page++) {
            PageMender x = opened(5, 3, 2);
            for (int k = 0; k < 31; k++) {
                CHECK.due("at first bit " + k + " of page " + page, x.bit(page, k), 1);
            }
            x.flip(page, 30);
            for (int other = 0; other < 16; other++) {
                CHECK.due("page " + other + " beside page " + page, x.bit(other, 30), other == page ? 0 : 1);
            }
        }
        PageMender x = opened(5, 3, 2);
        CHECK.due("no page before the first", x.bit(-1, 0), BAD);
        CHECK.due("no page after the last", x.bit(16, 0), BAD);
    }

    /** "each of its bits becomes 0 where that of the word is 0, else it stays" */
    private static void programmedBitsNeverRise() {
        int[] bytes = {0xF0, 0xCC, 0xFF, 0x00, 0xFF};
        PageMender x = opened(4, 1, 1);
        int[] want = new int[12];
        Arrays.fill(want, 1);
        for (int b : bytes) {
            x.put(0, b);
            int apart = 0;
            int[] word = new int[12];
            for (int k = 0; k < 12; k++) {
                word[k] = k < 8 ? b >> (7 - k) & 1 : x.tail(k - 8);
                want[k] &= word[k];
                apart += want[k] != word[k] ? 1 : 0;
            }
            CHECK.due("write of " + b + " over the others", x.write(9), apart);
            for (int k = 0; k < 12; k++) {
                CHECK.due("bit " + k + " after " + b, x.bit(9, k), want[k]);
            }
        }
    }

    /** "A bit that is STUCK at 0 or 1 stays so, whatever is done." */
    private static void stuckWhateverIsDone() {
        Scene.Call[] done = {
            x -> x.flip(0, 0), x -> x.flip(0, 1), x -> x.flip(0, 30), x -> x.erase(0), x -> x.put(0, 0x7F), x -> x.write(0),
            x -> x.copy(1, 0), x -> x.copy(0, 0), x -> x.refresh(0), x -> x.refresh(1), x -> x.read(0),
            x -> x.mark(0, 0, true), x -> x.mark(0, 1, true), x -> x.copy(0, 2), x -> x.put(0, 0x80), x -> x.write(0),
            x -> x.stick(0, 5, 1), x -> x.stick(0, 5, NONE), x -> x.erase(0)
        };
        PageMender x = opened(5, 3, 2);
        x.stick(0, 0, 1);
        x.stick(0, 1, 0);
        x.stick(0, 30, 0);
        for (int i = 0; i < done.length; i++) {
            done[i].on(x);
            CHECK.due("at 1, after call " + i, x.bit(0, 0), 1);
            CHECK.due("at 0, after call " + i, x.bit(0, 1), 0);
            CHECK.due("the last at 0, after call " + i, x.bit(0, 30), 0);
            CHECK.holds("they are STUCK yet, after call " + i, x.told(0, 2) >= 3);
        }
    }

    /** "WEAR of a page is how often it was erased": by erase(), copy() and refresh(), not by write(). */
    private static void wearIsHowOftenErased() {
        PageMender x = opened(5, 3, 2);
        CHECK.due("at first", x.told(7, 0), 0);
        x.write(7);
        CHECK.due("written", x.told(7, 0), 0);
        x.erase(7);
        CHECK.due("erased", x.told(7, 0), 1);
        x.erase(7);
        CHECK.due("erased though it was", x.told(7, 0), 2);
        x.copy(7, 8);
        CHECK.due("copied from", x.told(7, 0), 2);
        CHECK.due("copied to", x.told(8, 0), 1);
        x.copy(7, 7);
        CHECK.due("copied to itself", x.told(7, 0), 3);
        x.refresh(0);
        CHECK.due("refreshed", x.told(7, 0), 4);
        x.refresh(1);
        CHECK.due("nothing to refresh", x.told(7, 0), 4);
        for (int i = 5; i <= 300; i++) {
            CHECK.due("erased again and again", x.erase(7), i);
        }
    }

    /** "THE BUFFER has D bytes, at first 0." */
    private static void bufferAtFirst() {
        for (int[] c : new int[][] {{4, 1, 1}, {5, 3, 2}, {8, 8, 23}, {13, 8, 256}}) {
            PageMender x = opened(c);
            for (int i = 0; i < c[2]; i++) {
                CHECK.due(name(c) + " byte " + i, x.get(i), 0);
            }
            CHECK.due(name(c) + " no byte before", x.get(-1), BAD);
            CHECK.due(name(c) + " no byte after", x.get(c[2]), BAD);
        }
    }

    /** "ERRORS are numbers below 0" and the constants. */
    private static void constants() {
        CHECK.due("NONE", PageMender.NONE, -1);
        CHECK.due("BAD", PageMender.BAD, -2);
        CHECK.due("CLOSED", PageMender.CLOSED, -3);
        CHECK.due("LOST", PageMender.LOST, -4);
    }
}
