/** Promises 1 to 8: each sentence that names a boundary, quoted over the test that holds it. */
public final class FieldEdgesTest {
    private static final int NONE = PageMender.NONE;
    private static final int BAD = PageMender.BAD;
    private static final int CLOSED = PageMender.CLOSED;
    private static final int MIN = Integer.MIN_VALUE;
    private static final int MAX = Integer.MAX_VALUE;
    private static final Check CHECK = new Check("FieldEdgesTest");

    public static void main(String[] args) {
        noCode();
        noCodeAfterRefusal();
        becomesTheCode();
        allAsAtFirst();
        longerAndShorter();
        tailsAfterOtherCodes();
        refusedOpen();
        times();
        timesRoundTheEnd();
        inverse();
        power();
        powerRoundTheEnd();
        log();
        minimal();
        generator();
        CHECK.end();
    }

    private static PageMender opened(int m, int t, int d) {
        PageMender x = new PageMender();
        x.open(m, t, d);
        return x;
    }

    /** 1: "No code." Nothing was read either: turned() names no CLOSED, only NONE. */
    private static void noCode() {
        CHECK.due("about(0) of a new object", new PageMender().about(0), CLOSED);
        CHECK.due("get(0) of a new object", new PageMender().get(0), CLOSED);
        for (int i : new int[] {0, 1, -1, MIN, MAX}) {
            CHECK.due("turned(" + i + ") of a new object", new PageMender().turned(i), NONE);
        }
        CHECK.due("a code from then on", opened(4, 1, 1).about(0), 4);
    }

    private static void noCodeAfterRefusal() {
        for (int[] c : new int[][] {{2, 1, 1}, {14, 1, 1}, {8, 0, 1}, {8, 9, 1}, {8, 1, 0}, {8, 1, 257}, {3, 1, 1}, {4, 2, 1}}) {
            PageMender x = new PageMender();
            CHECK.due("refused", x.open(c[0], c[1], c[2]), BAD);
            for (int what = 0; what < 8; what++) {
                CHECK.due("about(" + what + ") yet", x.about(what), CLOSED);
            }
            CHECK.due("power(0) yet", x.power(0), CLOSED);
            CHECK.due("turned(0) yet", x.turned(0), NONE);
        }
    }

    /** 2: "The code becomes (M, T, D) .. : R." The least and the largest of each. */
    private static void becomesTheCode() {
        int[][] codes = {{4, 1, 1, 4}, {5, 1, 3, 5}, {5, 5, 1, 20}, {6, 8, 2, 45}, {13, 1, 1, 13}, {13, 8, 1, 104}, {13, 1, 256, 13}, {13, 8, 256, 104}};
        PageMender x = new PageMender();
        for (int[] c : codes) {
            CHECK.due("open", x.open(c[0], c[1], c[2]), c[3]);
            int[] want = {c[0], c[1], c[2], c[3], 8 * c[2] + c[3], 0, 0, 0};
            for (int what = 0; what < 8; what++) {
                CHECK.due("about(" + what + ")", x.about(what), want[what]);
            }
        }
    }

    /** 2: "the chip, the BUFFER, and what read() told and was counted, are as at first" */
    private static void allAsAtFirst() {
        Scene.Call same = x -> x.open(5, 3, 2);
        CHECK.same("the same code again", Worn.scene().then(same).seen(), Scene.of(same).seen());
        int[][] others = {{4, 1, 1}, {5, 2, 2}, {5, 5, 1}, {6, 1, 7}, {6, 8, 2}, {7, 4, 9}};
        for (int[] c : others) {
            Scene.Call other = x -> x.open(c[0], c[1], c[2]);
            String what = "another code, (" + c[0] + ", " + c[1] + ", " + c[2] + ")";
            CHECK.same(what, Worn.scene().then(other).seen(), Scene.of(other).seen());
        }
    }

    private static void longerAndShorter() {
        Scene large = Scene.of(x -> x.open(13, 8, 256), FieldEdgesTest::useAll);
        Scene.Call small = x -> x.open(4, 1, 1);
        Scene.Call middle = x -> x.open(7, 4, 9);
        CHECK.same("the largest code, then the least", large.then(small).seen(), Scene.of(small).seen());
        CHECK.same("the least code, then a larger one",
            Scene.of(small, FieldEdgesTest::useAll, middle).seen(), Scene.of(middle).seen());
        PageMender x = large.then(small, FieldEdgesTest::useAll, y -> y.open(13, 8, 256)).play();
        for (int page = 0; page < 16; page++) {
            for (int what = 0; what < 20; what++) {
                CHECK.due("the largest again, told(" + page + ", " + what + ")", x.told(page, what), 0);
            }
        }
    }

    /** Nothing of a code with a longer TAIL, or a shorter one, is left in what words are completed by. */
    private static void tailsAfterOtherCodes() {
        int[][] codes = {{13, 8, 256}, {8, 8, 23}, {4, 1, 1}, {13, 5, 256}, {13, 8, 256}, {11, 6, 100}};
        PageMender used = new PageMender();
        for (int[] c : codes) {
            PageMender fresh = opened(c[0], c[1], c[2]);
            used.open(c[0], c[1], c[2]);
            for (PageMender x : new PageMender[] {fresh, used}) {
                x.fill(0, 0x0123456789ABCDEFL);
                x.write(0);
                x.flip(0, 3);
            }
            String of = " of (" + c[0] + ", " + c[1] + ", " + c[2] + ")";
            for (int i = 0; i < fresh.about(3); i++) {
                CHECK.due("tail(" + i + ")" + of, used.tail(i), fresh.tail(i));
            }
            CHECK.due("read" + of, used.read(0), 1);
            CHECK.due("turned" + of, used.turned(0), 3);
        }
    }

    /** Bits turned, marked and stuck at both ends of the first page and the last. */
    private static int useAll(PageMender x) {
        int n = x.about(4);
        for (int page : new int[] {0, 15}) {
            for (int k : new int[] {0, n - 1}) {
                x.erase(page);
                x.mark(page, k, true);
                x.stick(page, k, 0);
            }
            x.flip(page, 1);
        }
        x.put(x.about(2) - 1, 255);
        x.write(7);
        x.read(7);
        return x.read(0);
    }

    /** 2: "BAD (M, T, D; N is above 2^M - 1)"; the code that there was stays, and mends. */
    private static void refusedOpen() {
        int[][] refused = {{2, 1, 1}, {14, 1, 1}, {5, 0, 2}, {5, 9, 2}, {5, 3, 0}, {5, 3, 257}, {5, 3, 3}, {5, 4, 2}, {13, 8, 257}, {3, 1, 1}};
        for (int[] c : refused) {
            PageMender x = Worn.scene().play();
            String what = "open(" + c[0] + ", " + c[1] + ", " + c[2] + ")";
            CHECK.due(what, x.open(c[0], c[1], c[2]), BAD);
            CHECK.due(what + ", then read", x.read(0), 2);
            CHECK.due(what + ", then get", x.get(0), 0xA5);
            CHECK.due(what + ", then turned", x.turned(1), 30);
        }
    }

    /** 3: "The product of two numbers. .. BAD." */
    private static void times() {
        for (int m = 4; m <= 13; m++) {
            PageMender x = opened(m, 1, 1);
            int top = (1 << m) - 1;
            CHECK.due("0 and 0", x.times(0, 0), 0);
            CHECK.due("0 and the last", x.times(0, top), 0);
            CHECK.due("the last and 0", x.times(top, 0), 0);
            CHECK.due("1 and the last", x.times(1, top), top);
            CHECK.due("the last and 1", x.times(top, 1), top);
            for (int no : new int[] {-1, top + 1, MIN, MAX}) {
                CHECK.due("times(" + no + ", 1)", x.times(no, 1), BAD);
                CHECK.due("times(1, " + no + ")", x.times(1, no), BAD);
                CHECK.due("times(0, " + no + ")", x.times(0, no), BAD);
                CHECK.due("times(" + no + ", 0)", x.times(no, 0), BAD);
                CHECK.due("times(" + no + ", " + no + ")", x.times(no, no), BAD);
            }
        }
    }

    /** The powers go round: A^i times A^j with i + j just below 2^M - 1, at it, above it, and at the most. */
    private static void timesRoundTheEnd() {
        for (int m = 4; m <= 13; m++) {
            PageMender x = opened(m, 1, 1);
            int order = (1 << m) - 1;
            for (int i : new int[] {1, order / 2, order - 1}) {
                int a = x.power(i);
                CHECK.due("to the last power", x.times(a, x.power(order - 1 - i)), x.power(order - 1));
                CHECK.due("to 1", x.times(a, x.power(order - i)), 1);
                CHECK.due("to 2", x.times(x.power(order + 1 - i), a), 2);
            }
            int last = x.power(order - 1);
            CHECK.due("the last power by itself", x.times(last, last), Model.mul(last, last, m));
        }
    }

    /** 4: "What a number must be multiplied with to be 1. .. BAD (also 0)." */
    private static void inverse() {
        for (int m = 4; m <= 13; m++) {
            PageMender x = opened(m, 1, 1);
            int top = (1 << m) - 1;
            CHECK.due("of 0, M = " + m, x.inverse(0), BAD);
            CHECK.due("of 1, M = " + m, x.inverse(1), 1);
            CHECK.due("of 2, M = " + m, x.inverse(2), x.power(top - 1));
            CHECK.due("of the last power, M = " + m, x.inverse(x.power(top - 1)), 2);
            CHECK.due("of the last number, M = " + m, Model.mul(top, x.inverse(top), m), 1);
            for (int no : new int[] {-1, top + 1, MIN, MAX}) {
                CHECK.due("inverse(" + no + "), M = " + m, x.inverse(no), BAD);
            }
        }
    }

    /** 5: "A^i, i from -100000 to 100000." */
    private static void power() {
        for (int m = 4; m <= 13; m++) {
            PageMender x = opened(m, 1, 1);
            for (int i : new int[] {-100000, -99999, 99999, 100000}) {
                CHECK.due("power(" + i + "), M = " + m, x.power(i), Model.powerOf(i, m));
            }
            for (int no : new int[] {-100001, 100001, MIN, MAX}) {
                CHECK.due("power(" + no + "), M = " + m, x.power(no), BAD);
            }
        }
    }

    private static void powerRoundTheEnd() {
        for (int m = 4; m <= 13; m++) {
            PageMender x = opened(m, 1, 1);
            int order = (1 << m) - 1;
            CHECK.due("A^0", x.power(0), 1);
            CHECK.due("the last before it goes round", x.power(order - 1), x.inverse(2));
            CHECK.due("once round", x.power(order), 1);
            CHECK.due("and on", x.power(order + 1), 2);
            CHECK.due("twice round", x.power(2 * order), 1);
            CHECK.due("below 0", x.power(-1), x.inverse(2));
            CHECK.due("once round below 0", x.power(-order), 1);
            CHECK.due("and on", x.power(-order - 1), x.inverse(2));
            CHECK.due("not yet round", x.power(-order + 1), 2);
        }
    }

    /** 6: "The i, 0 .. 2^M - 2, for which A^i is a number. .. BAD (also 0)." */
    private static void log() {
        for (int m = 4; m <= 13; m++) {
            PageMender x = opened(m, 1, 1);
            int top = (1 << m) - 1;
            CHECK.due("of 1: the least, not 2^M - 1, M = " + m, x.log(1), 0);
            CHECK.due("of 2, M = " + m, x.log(2), 1);
            CHECK.due("the largest, M = " + m, x.log(x.power(-1)), top - 1);
            CHECK.due("of the last number, M = " + m, Model.powerOf(x.log(top), m), top);
            CHECK.due("of 0, M = " + m, x.log(0), BAD);
            for (int no : new int[] {-1, top + 1, MIN, MAX}) {
                CHECK.due("log(" + no + "), M = " + m, x.log(no), BAD);
            }
        }
        // A field with fewer numbers than the one before must forget them.
        PageMender x = opened(13, 1, 1);
        x.open(4, 1, 1);
        CHECK.due("of a number of the larger field", x.log(16), BAD);
        CHECK.due("of the last number of the smaller one", x.log(15), 12);
        CHECK.due("the last power of the smaller one", x.power(14), 9);
    }

    /** 7: "THE MINIMAL POLYNOMIAL of A^i, 0 .. 2^M - 2." */
    private static void minimal() {
        for (int m = 4; m <= 13; m++) {
            PageMender x = opened(m, 1, 1);
            int last = (1 << m) - 2;
            CHECK.due("of A^0, M = " + m, x.minimal(0), 3);
            CHECK.due("of A^1, M = " + m, x.minimal(1), Model.minimalOf(1, m));
            CHECK.due("of the last power, M = " + m, x.minimal(last), Model.minimalOf(last, m));
            for (int no : new int[] {-1, last + 1, MIN, MAX}) {
                CHECK.due("minimal(" + no + "), M = " + m, x.minimal(no), BAD);
            }
        }
    }

    /** 8: "Bit i of THE GENERATOR; 0 beyond. .. BAD: i is below 0." */
    private static void generator() {
        for (int[] c : new int[][] {{4, 1, 4}, {5, 5, 20}, {6, 8, 45}, {8, 8, 64}, {9, 7, 63}, {13, 5, 65}, {13, 8, 104}}) {
            PageMender x = opened(c[0], c[1], 1);
            String of = " of (" + c[0] + ", " + c[1] + ", 1)";
            CHECK.due("the lowest bit" + of, x.generator(0), 1);
            CHECK.due("the highest bit" + of, x.generator(c[2]), 1);
            for (int i : new int[] {c[2] + 1, c[2] + 2, 104 + 1, 8191, MAX - 1, MAX}) {
                CHECK.due("beyond, generator(" + i + ")" + of, x.generator(i), 0);
            }
            CHECK.due("just below 0" + of, x.generator(-1), BAD);
            CHECK.due("far below 0" + of, x.generator(MIN), BAD);
        }
        PageMender x = opened(13, 8, 1);
        x.open(4, 1, 1);
        for (int i = 5; i <= 105; i++) {
            CHECK.due("beyond, after a larger one, generator(" + i + ")", x.generator(i), 0);
        }
    }
}
