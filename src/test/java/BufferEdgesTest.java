/** Promises 9 to 12: each sentence that names a boundary, quoted over the test that holds it. */
public final class BufferEdgesTest {
    private static final int BAD = PageMender.BAD;
    private static final int MIN = Integer.MIN_VALUE;
    private static final int MAX = Integer.MAX_VALUE;
    private static final int[] SIZES = {1, 2, 7, 8, 9, 15, 16, 17, 255, 256};
    private static final Check CHECK = new Check("BufferEdgesTest");

    public static void main(String[] args) {
        putLowestBits();
        putWhatItWas();
        putEnds();
        fillUpToEight();
        fillHighestFirst();
        fillEnds();
        get();
        tailEnds();
        tailOfEveryLength();
        tailFollowsTheBuffer();
        CHECK.end();
    }

    private static PageMender opened(int d) {
        PageMender x = new PageMender();
        x.open(13, 2, d);
        return x;
    }

    /** 9: "Byte i of the BUFFER becomes b (its lowest eight bits)" */
    private static void putLowestBits() {
        int[][] bytes = {{0, 0}, {1, 1}, {127, 127}, {128, 128}, {255, 255}, {256, 0}, {257, 1}, {-1, 255}, {-128, 128}, {-256, 0}, {-257, 255}, {MIN, 0}, {MAX, 255}};
        for (int[] b : bytes) {
            PageMender x = opened(3);
            CHECK.due("put(1, " + b[0] + ")", x.put(1, b[0]), 0);
            CHECK.due("put(1, " + b[0] + ") is there", x.get(1), b[1]);
            CHECK.due("put(1, " + b[0] + "), the byte before", x.get(0), 0);
            CHECK.due("put(1, " + b[0] + "), the byte behind", x.get(2), 0);
        }
    }

    /** 9: "what it was", 0 .. 255 and no error, though its highest bit may be 1 */
    private static void putWhatItWas() {
        PageMender x = opened(1);
        int was = 0;
        for (int b = 255; b >= 0; b--) {
            CHECK.due("before " + b, x.put(0, b), was);
            was = b;
        }
        x.read(0);
        CHECK.due("what read() brought", x.put(0, 0), 255);
    }

    /** 9: "BAD (i)": b is never BAD. */
    private static void putEnds() {
        for (int d : SIZES) {
            PageMender x = opened(d);
            CHECK.due("the first of " + d, x.put(0, 0x11), 0);
            CHECK.due("the last of " + d, x.put(d - 1, 0x22), d == 1 ? 0x11 : 0);
            CHECK.due("the first of " + d + " then", x.get(0), d == 1 ? 0x22 : 0x11);
            for (int no : new int[] {-1, d, MIN, MAX}) {
                CHECK.due("put(" + no + ") of " + d, x.put(no, 0x33), BAD);
                CHECK.due("put(" + no + ", -1) of " + d, x.put(no, -1), BAD);
            }
            CHECK.due("the last of " + d + " stays", x.get(d - 1), 0x22);
        }
    }

    /** 10: "Bytes i and on, up to eight of them, as far as there are, .. : how many" */
    private static void fillUpToEight() {
        for (int d : SIZES) {
            for (int i : new int[] {0, 1, d - 9, d - 8, d - 7, d - 2, d - 1}) {
                if (i < 0 || i >= d) {
                    continue;
                }
                PageMender x = opened(d);
                for (int k = 0; k < d; k++) {
                    x.put(k, 0x5A);
                }
                int many = Math.min(8, d - i);
                String what = "fill(" + i + ") of " + d;
                CHECK.due(what, x.fill(i, -1L), many);
                for (int k = Math.max(0, i - 2); k < Math.min(d, i + 10); k++) {
                    CHECK.due(what + ", byte " + k, x.get(k), k >= i && k < i + many ? 255 : 0x5A);
                }
            }
        }
    }

    /** 10: "become the highest ones of v, the highest first" */
    private static void fillHighestFirst() {
        long[] values = {0x0123456789ABCDEFL, 0xFEDCBA9876543210L, 1L, Long.MIN_VALUE, Long.MAX_VALUE, -1L, 0L, 255L << 56};
        for (long v : values) {
            for (int d = 1; d <= 8; d++) {
                PageMender x = opened(d);
                x.fill(0, ~v);
                CHECK.due("fill of " + d, x.fill(0, v), d);
                for (int k = 0; k < d; k++) {
                    CHECK.due("byte " + k + " of " + d + " from " + v, x.get(k), v >>> (56 - 8 * k) & 255);
                }
            }
        }
    }

    /** 10: "BAD (i)": v is never BAD. */
    private static void fillEnds() {
        for (int d : SIZES) {
            PageMender x = opened(d);
            for (int no : new int[] {-1, -8, d, d + 1, MIN, MAX, MAX - 7}) {
                CHECK.due("fill(" + no + ") of " + d, x.fill(no, -1L), BAD);
            }
            CHECK.due("the first of " + d + " stays", x.get(0), 0);
            CHECK.due("the last of " + d + " stays", x.get(d - 1), 0);
        }
    }

    /** 11: "Byte i of the BUFFER. .. BAD." */
    private static void get() {
        for (int d : SIZES) {
            PageMender x = opened(d);
            x.put(d - 1, 255);
            CHECK.due("the last of " + d, x.get(d - 1), 255);
            CHECK.due("the first of " + d, x.get(0), d == 1 ? 255 : 0);
            for (int no : new int[] {-1, d, d + 1, MIN, MAX}) {
                CHECK.due("get(" + no + ") of " + d, x.get(no), BAD);
            }
        }
        // A byte that a longer BUFFER had is none of a shorter one.
        PageMender x = opened(256);
        x.put(255, 9);
        x.open(4, 1, 1);
        CHECK.due("get(1) of a shorter one", x.get(1), BAD);
        CHECK.due("get(255) of a shorter one", x.get(255), BAD);
    }

    /** 12: "Bit i (0 .. R - 1) of the TAIL" */
    private static void tailEnds() {
        for (int[] c : new int[][] {{4, 1, 1}, {5, 3, 2}, {5, 5, 1}, {6, 8, 2}, {8, 8, 23}, {13, 5, 3}, {13, 8, 2}}) {
            PageMender x = new PageMender();
            int r = x.open(c[0], c[1], c[2]);
            String of = " of (" + c[0] + ", " + c[1] + ", " + c[2] + ")";
            x.put(0, 0x96);
            x.write(0);
            for (int i = 0; i < r; i++) {
                CHECK.due("tail(" + i + ")" + of, x.tail(i), x.bit(0, 8 * c[2] + i));
            }
            for (int i = 1; i <= 2 * c[1]; i++) {
                CHECK.due("it is RIGHT, syndrome " + i + of, x.syndrome(0, i), 0);
            }
            for (int no : new int[] {-1, r, r + 1, MIN, MAX}) {
                CHECK.due("tail(" + no + ")" + of, x.tail(no), BAD);
            }
        }
    }

    /** 12: "the TAIL that is RIGHT": of every R that there is, beside the model's division bit by bit. */
    private static void tailOfEveryLength() {
        for (int m = 4; m <= 13; m++) {
            for (int t = 1; t <= 8; t++) {
                for (int d : new int[] {1, 2, 9, 20}) {
                    sameTails(m, t, d);
                }
            }
        }
    }

    private static void sameTails(int m, int t, int d) {
        Model y = new Model();
        int r = y.open(m, t, d);
        PageMender x = new PageMender();
        CHECK.due("open(" + m + ", " + t + ", " + d + ")", x.open(m, t, d), r);
        int[] data = new int[d];
        for (int i = 0; r > 0 && i < d; i++) {
            data[i] = 0xB7 * (i + 1) & 255;
            x.put(i, data[i]);
        }
        int[] word = r > 0 ? y.wordOf(data) : new int[0];
        for (int i = 0; i < r; i++) {
            CHECK.due("tail(" + i + ") of (" + m + ", " + t + ", " + d + ")", x.tail(i), word[8 * d + i]);
        }
    }

    /** 12: "that is RIGHT for the BUFFER": as it is now, by whatever it came to be so. */
    private static void tailFollowsTheBuffer() {
        Model y = new Model();
        y.open(5, 3, 2);
        PageMender x = new PageMender();
        x.open(5, 3, 2);
        sameTail("at first", x, y);
        x.put(1, 1);
        y.put(1, 1);
        sameTail("after put", x, y);
        x.fill(0, 0xC0FFEEL << 40);
        y.fill(0, 0xC0FFEEL << 40);
        sameTail("after fill", x, y);
        x.flip(3, 16);
        y.flip(3, 16);
        x.read(3);
        y.read(3);
        sameTail("after read", x, y);
        x.put(9, 1);
        y.put(9, 1);
        sameTail("after a refused put", x, y);
        for (int k = 0; k < 31; k += 9) {
            x.flip(4, k);
        }
        CHECK.due("a LOST read", x.read(4), PageMender.LOST);
        sameTail("after a LOST read", x, y);
    }

    private static void sameTail(String when, PageMender x, Model y) {
        for (int i = 0; i < 15; i++) {
            CHECK.due("tail(" + i + ") " + when, x.tail(i), y.tail(i));
        }
    }
}
