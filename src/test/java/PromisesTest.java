/** Each promise by its number: ordinary inputs, the edges that the document names, wrong inputs. */
public final class PromisesTest {
    private static final int NONE = PageMender.NONE;
    private static final int BAD = PageMender.BAD;
    private static final int CLOSED = PageMender.CLOSED;
    private static final int LOST = PageMender.LOST;
    private static final int MIN = Integer.MIN_VALUE;
    private static final int MAX = Integer.MAX_VALUE;
    private static final Check CHECK = new Check("PromisesTest");

    public static void main(String[] args) {
        newObject();
        openCodes();
        openRefused();
        openRenews();
        times();
        inverse();
        power();
        log();
        minimal();
        generator();
        put();
        fill();
        get();
        tail();
        write();
        erase();
        flip();
        stick();
        mark();
        bit();
        read();
        readWithMarks();
        turned();
        syndrome();
        copy();
        copyLost();
        refresh();
        told();
        about();
        CHECK.end();
    }

    private static void due(String what, long got, long want) {
        CHECK.due(what, got, want);
    }

    private static PageMender opened(int m, int t, int d) {
        PageMender x = new PageMender();
        x.open(m, t, d);
        return x;
    }

    /** Page 0 of (5, 3, 2) with the bytes 170 and 51. */
    private static PageMender written() {
        PageMender x = opened(5, 3, 2);
        x.put(0, 170);
        x.put(1, 51);
        due("13 write on an erased page", x.write(0), 0);
        return x;
    }

    private static void flipAll(PageMender x, int page, int... bits) {
        for (int k : bits) {
            x.flip(page, k);
        }
    }

    private static void markAll(PageMender x, int page, int... bits) {
        for (int k : bits) {
            x.mark(page, k, true);
        }
    }

    private static void newObject() {
        PageMender x = new PageMender();
        due("1 NONE", NONE, -1);
        due("1 BAD", BAD, -2);
        due("1 CLOSED", CLOSED, -3);
        due("1 LOST", LOST, -4);
        int[] answers = {
            x.times(1, 1), x.inverse(1), x.power(0), x.log(1), x.minimal(1), x.generator(0), x.put(0, 1),
            x.fill(0, 1L), x.get(0), x.tail(0), x.write(0), x.erase(0), x.flip(0, 0), x.stick(0, 0, 1),
            x.mark(0, 0, true), x.bit(0, 0), x.read(0), x.syndrome(0, 1), x.copy(0, 1), x.refresh(0),
            x.told(0, 0), x.about(0)
        };
        for (int i = 0; i < answers.length; i++) {
            due("1 call " + i + " without a code", answers[i], CLOSED);
        }
        due("1 turned(0) without a code", x.turned(0), NONE);
        int[] wrong = {
            x.times(-1, 1), x.inverse(0), x.power(MAX), x.log(0), x.minimal(-1), x.generator(-1), x.put(-1, 1),
            x.fill(-1, 1L), x.get(-1), x.tail(-1), x.write(16), x.erase(16), x.flip(16, 0), x.stick(0, 0, 5),
            x.mark(16, 0, true), x.bit(16, 0), x.read(16), x.syndrome(0, 0), x.copy(0, 16), x.refresh(65),
            x.told(0, 20), x.about(8)
        };
        for (int i = 0; i < wrong.length; i++) {
            due("1 call " + i + " with wrong numbers: CLOSED is named first", wrong[i], CLOSED);
        }
        x.open(4, 2, 1);
        due("1 CLOSED stays after a refused open", x.about(0), CLOSED);
    }

    private static void openCodes() {
        int[][] codes = {
            {4, 1, 1, 4}, {5, 1, 1, 5}, {5, 1, 3, 5}, {5, 2, 2, 10}, {5, 3, 2, 15}, {5, 5, 1, 20}, {6, 1, 7, 6},
            {6, 3, 5, 18}, {6, 6, 3, 33}, {6, 7, 3, 39}, {7, 8, 8, 56}, {8, 8, 23, 64}, {9, 8, 54, 72},
            {10, 8, 117, 80}, {11, 8, 244, 88}, {12, 8, 256, 96}, {13, 8, 256, 104}, {13, 1, 256, 13}, {13, 1, 1, 13}
        };
        for (int[] c : codes) {
            PageMender x = new PageMender();
            String what = "2 open(" + c[0] + ", " + c[1] + ", " + c[2] + ")";
            due(what, x.open(c[0], c[1], c[2]), c[3]);
            due(what + ": N", x.about(4), 8 * c[2] + c[3]);
        }
    }

    private static void openRefused() {
        int[][] refused = {
            {3, 1, 1}, {2, 1, 1}, {14, 1, 1}, {0, 0, 0}, {-1, 1, 1}, {MIN, 1, 1}, {MAX, 1, 1}, {8, 0, 1}, {8, 9, 1},
            {8, -1, 1}, {8, MAX, 1}, {8, MIN, 1}, {8, 1, 0}, {13, 1, 257}, {8, 1, -1}, {8, 1, MAX}, {8, 1, MIN},
            {4, 2, 1}, {4, 3, 1}, {4, 1, 2}, {5, 3, 3}, {5, 1, 4}, {6, 7, 4}, {8, 1, 31}, {8, 8, 24}, {11, 8, 245},
            {3, 8, 1}, {4, 8, 1}, {5, 8, 1}
        };
        PageMender x = written();
        flipAll(x, 0, 4);
        x.read(0);
        for (int[] c : refused) {
            String what = "2 open(" + c[0] + ", " + c[1] + ", " + c[2] + ")";
            due(what, x.open(c[0], c[1], c[2]), BAD);
            due(what + " leaves M", x.about(0), 5);
            due(what + " leaves N", x.about(4), 31);
            due(what + " leaves the counts", x.about(5), 1);
            due(what + " leaves the buffer", x.get(0), 170);
            due(what + " leaves the field", x.times(16, 2), 5);
            due(what + " leaves the generator", x.generator(15), 1);
            due(what + " leaves turned", x.turned(0), 4);
            due(what + " leaves the page", x.told(0, 3), x.told(0, 4 + 1));
        }
        due("2 after all that it still mends", x.read(0), 1);
    }

    private static void openRenews() {
        PageMender x = written();
        due("2 RIGHT before", x.read(0), 0);
        flipAll(x, 0, 4);
        due("2 MENDED before", x.read(0), 1);
        x.stick(1, 3, 0);
        x.mark(1, 5, true);
        x.erase(1);
        x.mark(1, 5, true);
        x.mark(2, 5, true);
        markAll(x, 3, 0, 1, 2, 3, 4, 5, 6);
        due("2 LOST before", x.read(3), LOST);
        due("2 open again", x.open(5, 3, 2), 15);
        for (int page = 0; page < 16; page++) {
            for (int what = 0; what < 20; what++) {
                due("2 a new chip: told(" + page + ", " + what + ")", x.told(page, what), 0);
            }
        }
        for (int what = 5; what < 8; what++) {
            due("2 new counts: about(" + what + ")", x.about(what), 0);
        }
        due("2 a new buffer", x.get(0) + x.get(1), 0);
        due("2 nothing was turned", x.turned(0), NONE);
        due("2 bit 3 sticks no more", x.flip(1, 3), 0);
        due("2 a longer code", x.open(13, 8, 256), 104);
        due("2 all bits are 1", x.told(0, 3), 0);
        due("2 a shorter code", x.open(4, 1, 1), 4);
        due("2 no bit beyond N is left", x.told(0, 3), 0);
        due("2 no bit beyond N is left apart", x.told(0, 5), 0);
        due("2 erased words are RIGHT", x.read(15), 0);
    }

    private static void times() {
        PageMender x = opened(4, 1, 1);
        due("3 times(2, 8)", x.times(2, 8), 3);
        due("3 times(15, 15)", x.times(15, 15), 10);
        due("3 times(0, 7)", x.times(0, 7), 0);
        due("3 times(7, 0)", x.times(7, 0), 0);
        due("3 times(0, 0)", x.times(0, 0), 0);
        due("3 times(1, 15)", x.times(1, 15), 15);
        for (int a : new int[] {-1, 16, MIN, MAX}) {
            due("3 times(" + a + ", 1)", x.times(a, 1), BAD);
            due("3 times(1, " + a + ")", x.times(1, a), BAD);
            due("3 times(0, " + a + ")", x.times(0, a), BAD);
        }
        int[] doubled = {3, 5, 3, 9, 29, 17, 9, 5, 83, 27};
        for (int m = 4; m <= 13; m++) {
            x = opened(m, 1, 1);
            due("3 2 times the highest bit, M = " + m, x.times(2, 1 << (m - 1)), doubled[m - 4]);
            due("3 above the field, M = " + m, x.times(1, 1 << m), BAD);
            due("3 the top of the field, M = " + m, x.times(1, (1 << m) - 1), (1 << m) - 1);
        }
    }

    private static void inverse() {
        PageMender x = opened(8, 2, 4);
        due("4 inverse(1)", x.inverse(1), 1);
        due("4 inverse(2)", x.inverse(2), 142);
        due("4 inverse(142)", x.inverse(142), 2);
        for (int a = 1; a < 256; a++) {
            due("4 a number times its inverse, " + a, x.times(a, x.inverse(a)), 1);
        }
        for (int a : new int[] {0, -1, 256, MIN, MAX}) {
            due("4 inverse(" + a + ")", x.inverse(a), BAD);
        }
    }

    private static void power() {
        PageMender x = opened(4, 1, 1);
        int[] powers = {1, 2, 4, 8, 3, 6, 12, 11, 5, 10, 7, 14, 15, 13, 9, 1, 2};
        for (int i = 0; i < powers.length; i++) {
            due("5 power(" + i + ")", x.power(i), powers[i]);
            due("5 power(" + (i - 30) + ")", x.power(i - 30), powers[i]);
        }
        due("5 power(100000)", x.power(100000), powers[100000 % 15]);
        due("5 power(-100000)", x.power(-100000), powers[15 - 100000 % 15]);
        due("5 power(100001)", x.power(100001), BAD);
        due("5 power(-100001)", x.power(-100001), BAD);
        due("5 power of the least", x.power(MIN), BAD);
        due("5 power of the most", x.power(MAX), BAD);
    }

    private static void log() {
        PageMender x = opened(10, 2, 4);
        due("6 log(1)", x.log(1), 0);
        due("6 log(2)", x.log(2), 1);
        due("6 log(512)", x.log(512), 9);
        due("6 log(9)", x.log(9), 10);
        for (int i = 0; i < 1023; i += 31) {
            due("6 log of power " + i, x.log(x.power(i)), i);
        }
        due("6 the last power", x.log(x.power(1022)), 1022);
        for (int a : new int[] {0, -1, 1024, MIN, MAX}) {
            due("6 log(" + a + ")", x.log(a), BAD);
        }
    }

    private static void minimal() {
        PageMender x = opened(4, 1, 1);
        int[] all = {3, 19, 19, 31, 19, 7, 31, 25, 19, 31, 7, 25, 31, 25, 25};
        for (int i = 0; i < all.length; i++) {
            due("7 minimal(" + i + ")", x.minimal(i), all[i]);
        }
        for (int i : new int[] {-1, 15, MIN, MAX}) {
            due("7 minimal(" + i + ")", x.minimal(i), BAD);
        }
        int[] field = {19, 37, 67, 137, 285, 529, 1033, 2053, 4179, 8219};
        for (int m = 4; m <= 13; m++) {
            x = opened(m, 1, 1);
            due("7 minimal(1), M = " + m, x.minimal(1), field[m - 4]);
            due("7 minimal(0), M = " + m, x.minimal(0), 3);
            due("7 the last one is a root's inverse, M = " + m, x.minimal((1 << m) - 2), mirrored(field[m - 4]));
            due("7 one above, M = " + m, x.minimal((1 << m) - 1), BAD);
        }
        x = opened(6, 1, 1);
        due("7 of degree 2", x.minimal(21), 7);
        due("7 of degree 3", x.minimal(9), Model.minimalOf(9, 6));
    }

    private static int mirrored(int polynomial) {
        return Integer.reverse(polynomial) >>> Integer.numberOfLeadingZeros(polynomial);
    }

    private static void generator() {
        PageMender x = opened(5, 2, 1);
        String bits = "10010110111";
        for (int i = 0; i < bits.length(); i++) {
            due("8 generator(" + i + ")", x.generator(i), bits.charAt(i) - '0');
        }
        due("8 beyond", x.generator(11), 0);
        due("8 far beyond", x.generator(MAX), 0);
        due("8 below", x.generator(-1), BAD);
        due("8 far below", x.generator(MIN), BAD);
        for (int m = 4; m <= 13; m++) {
            for (int t = 1; t <= 8; t++) {
                x = new PageMender();
                int[] g = Model.generatorOf(m, t);
                if (x.open(m, t, 1) >= 0) {
                    for (int i = 0; i < 120; i++) {
                        due("8 generator(" + i + ") of " + m + ", " + t, x.generator(i), i < g.length ? g[i] : 0);
                    }
                }
            }
        }
    }

    private static void put() {
        PageMender x = opened(6, 1, 7);
        due("9 put at first", x.put(0, 300), 0);
        due("9 the lowest eight bits", x.put(0, -1), 44);
        due("9 of -1", x.put(0, MIN), 255);
        due("9 of the least", x.get(0), 0);
        due("9 the last byte", x.put(6, 129), 0);
        due("9 its neighbour stays", x.get(5), 0);
        due("9 too much for a byte", x.put(3, -257), 0);
        due("9 its lowest eight bits", x.get(3), 255);
        due("9 nothing runs over to the one before", x.get(2), 0);
        due("9 nor to the one behind", x.get(4), 0);
        for (int i : new int[] {-1, 7, MIN, MAX}) {
            due("9 put(" + i + ")", x.put(i, 1), BAD);
        }
        due("9 refused ones change nothing", x.get(6), 129);
    }

    private static void fill() {
        PageMender x = opened(8, 1, 12);
        long v = 0x8123456789ABCDEFL;
        due("10 fill from 1", x.fill(1, v), 8);
        int[] want = {0, 0x81, 0x23, 0x45, 0x67, 0x89, 0xAB, 0xCD, 0xEF, 0, 0, 0};
        for (int i = 0; i < 12; i++) {
            due("10 then get(" + i + ")", x.get(i), want[i]);
        }
        due("10 just all", x.fill(4, -1L), 8);
        due("10 as far as there are", x.fill(9, v), 3);
        due("10 the highest first", x.get(9), 0x81);
        due("10 and on", x.get(11), 0x45);
        due("10 before it", x.get(8), 255);
        due("10 the last one", x.fill(11, 0x7700000000000000L), 1);
        due("10 is there", x.get(11), 0x77);
        for (int i : new int[] {-1, 12, MIN, MAX}) {
            due("10 fill(" + i + ")", x.fill(i, v), BAD);
        }
        due("10 refused ones change nothing", x.get(0), 0);
        x = opened(4, 1, 1);
        due("10 of one byte", x.fill(0, v), 1);
        due("10 of one byte, told", x.get(0), 0x81);
        due("10 its tail is untouched by what is over", x.write(0), 0);
        due("10 its word is RIGHT", x.read(0), 0);
    }

    private static void get() {
        PageMender x = opened(13, 1, 256);
        due("11 at first", x.get(0), 0);
        due("11 the last at first", x.get(255), 0);
        x.put(255, 200);
        due("11 the last", x.get(255), 200);
        due("11 unsigned", x.put(254, -128), 0);
        due("11 unsigned", x.get(254), 128);
        for (int i : new int[] {-1, 256, MIN, MAX}) {
            due("11 get(" + i + ")", x.get(i), BAD);
        }
    }

    private static void tail() {
        PageMender x = opened(4, 1, 1);
        x.put(0, 255);
        for (int i = 0; i < 4; i++) {
            due("12 of ones it is ones", x.tail(i), 1);
        }
        // Turned, the data are 1 at x^4: that leaves x + 1, so the two lowest bits are turned.
        x.put(0, 254);
        int[] want = {1, 1, 0, 0};
        for (int i = 0; i < 4; i++) {
            due("12 tail(" + i + ") of 254", x.tail(i), want[i]);
        }
        due("12 get stays", x.get(0), 254);
        for (int i : new int[] {-1, 4, MIN, MAX}) {
            due("12 tail(" + i + ")", x.tail(i), BAD);
        }
        x = written();
        for (int i = 0; i < 15; i++) {
            due("12 a page has the tail, " + i, x.bit(0, 16 + i), x.tail(i));
        }
    }

    private static void write() {
        PageMender x = written();
        int[] data = {1, 0, 1, 0, 1, 0, 1, 0, 0, 0, 1, 1, 0, 0, 1, 1};
        for (int k = 0; k < 16; k++) {
            due("13 bit " + k, x.bit(0, k), data[k]);
        }
        due("13 the same again", x.write(0), 0);
        int zeros = x.told(0, 3);
        x.put(0, 85);
        int over = x.write(0);
        int differ = 0;
        for (int k = 0; k < 8; k++) {
            due("13 no bit rises, " + k, x.bit(0, k), 0);
            differ += k % 2;
        }
        for (int i = 0; i < 15; i++) {
            differ += x.bit(0, 16 + i) != x.tail(i) ? 1 : 0;
        }
        due("13 how many bits are not those", over, differ);
        CHECK.holds("13 only zeros are added", x.told(0, 3) > zeros);
        x = opened(5, 3, 2);
        x.stick(0, 0, 1);
        x.stick(0, 1, 0);
        x.put(0, 0x7F);
        x.put(1, 255);
        due("13 two stuck bits are other ones", x.write(0), 2);
        due("13 stuck at 1", x.bit(0, 0), 1);
        due("13 stuck at 0", x.bit(0, 1), 0);
        due("13 other pages stay", x.told(1, 3), 0);
        due("13 no wear", x.told(0, 0), 0);
        for (int page : new int[] {-1, 16, MIN, MAX}) {
            due("13 write(" + page + ")", x.write(page), BAD);
        }
        due("13 the last page", x.write(15), 0);
        due("13 it has them", x.bit(15, 0), 0);
    }

    private static void erase() {
        PageMender x = written();
        x.mark(0, 3, true);
        x.stick(0, 4, 0);
        x.stick(0, 5, 1);
        due("14 wear", x.erase(0), 1);
        due("14 all but the stuck bit are 1", x.told(0, 3), 1);
        due("14 that one", x.bit(0, 4), 0);
        due("14 marks are gone", x.told(0, 1), 0);
        due("14 stuck bits are not", x.told(0, 2), 2);
        due("14 wear again", x.erase(0), 2);
        due("14 of another page", x.erase(15), 1);
        due("14 the buffer stays", x.get(0), 170);
        for (int page : new int[] {-1, 16, MIN, MAX}) {
            due("14 erase(" + page + ")", x.erase(page), BAD);
        }
        due("14 told", x.told(0, 0), 2);
    }

    private static void flip() {
        PageMender x = opened(5, 3, 2);
        due("15 down", x.flip(3, 30), 0);
        due("15 up", x.flip(3, 30), 1);
        due("15 the first", x.flip(3, 0), 0);
        x.stick(3, 1, 1);
        x.stick(3, 2, 0);
        due("15 stuck at 1", x.flip(3, 1), 1);
        due("15 stuck at 0", x.flip(3, 2), 0);
        x.stick(3, 2, NONE);
        due("15 stuck no more", x.flip(3, 2), 1);
        for (int k : new int[] {-1, 31, MIN, MAX}) {
            due("15 flip(3, " + k + ")", x.flip(3, k), BAD);
        }
        for (int page : new int[] {-1, 16, MIN, MAX}) {
            due("15 flip(" + page + ", 0)", x.flip(page, 0), BAD);
        }
        due("15 one bit is 0", x.told(3, 3), 1);
    }

    private static void stick() {
        PageMender x = opened(5, 3, 2);
        due("16 at 0", x.stick(2, 7, 0), 1);
        due("16 it is that", x.bit(2, 7), 0);
        due("16 another", x.stick(2, 30, 1), 2);
        due("16 the same again", x.stick(2, 7, 0), 2);
        due("16 at the other", x.stick(2, 7, 1), 2);
        due("16 it is that", x.bit(2, 7), 1);
        due("16 and back", x.stick(2, 7, 0), 2);
        due("16 no more", x.stick(2, 7, NONE), 1);
        due("16 the bit stays as it was", x.bit(2, 7), 0);
        due("16 no more again", x.stick(2, 7, NONE), 1);
        due("16 it is erased again", x.erase(2), 1);
        due("16 and is 1", x.bit(2, 7), 1);
        for (int v : new int[] {-2, 2, MIN, MAX}) {
            due("16 v = " + v, x.stick(2, 7, v), BAD);
        }
        for (int k : new int[] {-1, 31, MIN, MAX}) {
            due("16 bit " + k, x.stick(2, k, 0), BAD);
        }
        for (int page : new int[] {-1, 16, MIN, MAX}) {
            due("16 page " + page, x.stick(page, 0, 0), BAD);
        }
        due("16 refused ones change nothing", x.told(2, 2), 1);
        due("16 other pages stay", x.told(1, 2), 0);
    }

    private static void mark() {
        PageMender x = opened(5, 3, 2);
        due("17 one", x.mark(4, 0, true), 1);
        due("17 two", x.mark(4, 30, true), 2);
        due("17 again", x.mark(4, 30, true), 2);
        due("17 no more", x.mark(4, 30, false), 1);
        due("17 no more again", x.mark(4, 30, false), 1);
        due("17 the bit stays", x.bit(4, 0), 1);
        x.flip(4, 0);
        x.write(4);
        x.read(4);
        x.stick(4, 0, 1);
        x.copy(4, 5);
        due("17 marks stay", x.told(4, 1), 1);
        due("17 and are not copied", x.told(5, 1), 0);
        x.erase(4);
        due("17 till erase", x.told(4, 1), 0);
        for (int k : new int[] {-1, 31, MIN, MAX}) {
            due("17 bit " + k, x.mark(4, k, true), BAD);
        }
        for (int page : new int[] {-1, 16, MIN, MAX}) {
            due("17 page " + page, x.mark(page, 0, true), BAD);
        }
    }

    private static void bit() {
        PageMender x = opened(5, 3, 2);
        due("18 erased", x.bit(15, 30), 1);
        x.flip(15, 30);
        due("18 as it is", x.bit(15, 30), 0);
        due("18 its neighbour", x.bit(15, 29), 1);
        due("18 another page", x.bit(14, 30), 1);
        for (int k : new int[] {-1, 31, MIN, MAX}) {
            due("18 bit " + k, x.bit(0, k), BAD);
        }
        for (int page : new int[] {-1, 16, MIN, MAX}) {
            due("18 page " + page, x.bit(page, 0), BAD);
        }
    }

    private static void read() {
        PageMender x = written();
        x.put(0, 1);
        due("19 a RIGHT word", x.read(0), 0);
        due("19 the buffer is its data", x.get(0), 170);
        flipAll(x, 0, 0, 15, 30);
        x.put(0, 1);
        x.put(1, 2);
        due("19 three bits", x.read(0), 3);
        due("19 data", x.get(0), 170);
        due("19 data", x.get(1), 51);
        due("19 the page stays", x.bit(0, 0), 0);
        due("19 and again", x.read(0), 3);
        flipAll(x, 0, 9);
        x.put(0, 1);
        due("19 four bits", x.read(0), LOST);
        due("19 the buffer stays", x.get(0), 1);
        due("19 an erased page", x.read(1), 0);
        due("19 is all ones", x.get(0), 255);
        for (int page : new int[] {-1, 16, MIN, MAX}) {
            due("19 read(" + page + ")", x.read(page), BAD);
        }
        due("19 refused ones change nothing", x.get(0), 255);
        due("19 nor are they counted", x.about(5) + x.about(6) + x.about(7), 6 - 1);
    }

    private static void readWithMarks() {
        PageMender x = written();
        flipAll(x, 0, 0, 1, 2, 3, 4);
        markAll(x, 0, 0, 1, 2, 3);
        due("19 four marks and one more", x.read(0), 5);
        due("19 data", x.get(0), 170);
        flipAll(x, 0, 1, 2);
        due("19 marked bits may be right", x.read(0), 3);
        markAll(x, 0, 5);
        due("19 five marks and one more", x.read(0), LOST);
        markAll(x, 0, 4);
        due("19 six marks", x.read(0), 3);
        flipAll(x, 0, 20);
        due("19 six marks and one more", x.read(0), LOST);
        flipAll(x, 0, 20);
        markAll(x, 0, 20);
        due("19 seven marks", x.read(0), LOST);
        flipAll(x, 0, 0, 3, 4);
        due("19 a RIGHT word with seven marks", x.read(0), LOST);
        x.mark(0, 20, false);
        due("19 a RIGHT word with six marks", x.read(0), 0);
        due("19 the marks stay", x.told(0, 1), 6);
        x = written();
        flipAll(x, 0, 0, 10, 30);
        markAll(x, 0, 6, 7);
        due("19 two marks that are right, three others", x.read(0), LOST);
    }

    private static void turned() {
        PageMender x = written();
        due("20 at first", x.turned(0), NONE);
        flipAll(x, 0, 30, 7, 16);
        x.read(0);
        int[] want = {7, 16, 30, NONE, NONE};
        for (int i = 0; i < want.length; i++) {
            due("20 turned(" + i + ")", x.turned(i), want[i]);
        }
        for (int i : new int[] {-1, MIN, MAX}) {
            due("20 turned(" + i + ")", x.turned(i), NONE);
        }
        flipAll(x, 0, 1);
        due("20 LOST", x.read(0), LOST);
        x.read(16);
        x.flip(1, 3);
        x.copy(1, 2);
        x.refresh(0);
        due("20 of the latest that was neither", x.turned(0), 7);
        flipAll(x, 2, 9, 10);
        markAll(x, 2, 10, 11);
        x.read(2);
        due("20 with marks", x.turned(0), 9);
        due("20 with marks", x.turned(1), 10);
        due("20 with marks", x.turned(2), NONE);
        x.read(3);
        due("20 a RIGHT word has none", x.turned(0), NONE);
    }

    private static void syndrome() {
        PageMender x = opened(5, 3, 2);
        for (int i = 1; i <= 6; i++) {
            due("21 of a RIGHT word", x.syndrome(0, i), 0);
        }
        x.flip(0, 30);
        due("21 bit N - 1 is at x^0", x.syndrome(0, 6), 1);
        x.flip(0, 30);
        x.flip(0, 29);
        for (int i = 1; i <= 6; i++) {
            due("21 bit N - 2 is at x^1", x.syndrome(0, i), x.power(i));
        }
        x.flip(0, 0);
        for (int i = 1; i <= 6; i++) {
            due("21 bit 0 is at x^30", x.syndrome(0, i), x.power(i) ^ x.power(30 * i));
        }
        for (int i : new int[] {0, -1, 7, MIN, MAX}) {
            due("21 syndrome(0, " + i + ")", x.syndrome(0, i), BAD);
        }
        for (int page : new int[] {-1, 16, MIN, MAX}) {
            due("21 page " + page, x.syndrome(page, 1), BAD);
        }
    }

    private static void copy() {
        PageMender x = written();
        flipAll(x, 0, 3, 20);
        markAll(x, 0, 20);
        markAll(x, 7, 1, 2);
        flipAll(x, 7, 2, 4, 6);
        x.stick(7, 0, 0);
        x.put(0, 99);
        due("22 a stuck bit is another one", x.copy(0, 7), 1);
        due("22 the other one is erased", x.told(7, 0), 1);
        due("22 and loses its marks by that", x.told(7, 1), 0);
        due("22 but not its stuck bits", x.told(7, 2), 1);
        due("22 the first one stays", x.told(0, 0), 0);
        due("22 with its wrong bits", x.told(0, 4 + 7), 3);
        due("22 the buffer stays", x.get(0), 99);
        due("22 no read is counted", x.about(5) + x.about(6) + x.about(7), 0);
        due("22 it is mended to the same", x.read(7), 1);
        due("22 the same data", x.get(0), 170);
        due("22 to itself", x.copy(0, 0), 0);
        due("22 it is RIGHT then", x.read(0), 0);
        due("22 it was erased", x.told(0, 0), 1);
        due("22 and has no marks", x.told(0, 1), 0);
        for (int page : new int[] {-1, 16, MIN, MAX}) {
            due("22 copy(" + page + ", 0)", x.copy(page, 0), BAD);
            due("22 copy(0, " + page + ")", x.copy(0, page), BAD);
        }
        due("22 the last page", x.copy(0, 15), 0);
    }

    private static void copyLost() {
        PageMender x = written();
        flipAll(x, 0, 3, 9, 17, 30);
        markAll(x, 1, 5);
        due("22 LOST", x.copy(0, 1), LOST);
        due("22 BAD is named first", x.copy(0, 16), BAD);
        due("22 the other one stays", x.told(1, 0), 0);
        due("22 with its marks", x.told(1, 1), 1);
        due("22 and its bits", x.told(1, 3), 0);
        due("22 LOST to itself", x.copy(0, 0), LOST);
        due("22 it stays", x.told(0, 0), 0);
        due("22 LOST copies are not counted", x.about(7), 0);
    }

    private static void refresh() {
        PageMender x = opened(5, 3, 2);
        flipAll(x, 1, 4);
        flipAll(x, 2, 4, 5);
        flipAll(x, 3, 4, 5, 6);
        flipAll(x, 4, 4, 5, 6, 30);
        markAll(x, 5, 4, 5, 6, 7, 8, 9);
        flipAll(x, 5, 4, 5, 6, 7, 8, 9);
        x.stick(15, 30, 0);
        due("23 more than any", x.refresh(64), 0);
        due("23 six by marks", x.refresh(6), 1);
        due("23 its wear", x.told(5, 0), 1);
        due("23 its marks", x.told(5, 1), 0);
        due("23 its bits", x.told(5, 3), 0);
        due("23 two or more", x.refresh(2), 2);
        due("23 two", x.told(2, 0), 1);
        due("23 three", x.told(3, 0), 1);
        due("23 one is too few", x.told(1, 0), 0);
        due("23 LOST stays", x.told(4, 0), 0);
        due("23 one or more: the stuck one too", x.refresh(1), 2);
        due("23 that is still wrong", x.refresh(1), 1);
        due("23 all but LOST", x.refresh(0), 15);
        due("23 its wear", x.told(15, 0), 3);
        due("23 LOST stays", x.told(4, 3), 4);
        due("23 no read is counted", x.about(5) + x.about(6) + x.about(7), 0);
        due("23 the buffer stays", x.get(0), 0);
        for (int most : new int[] {-1, 65, MIN, MAX}) {
            due("23 refresh(" + most + ")", x.refresh(most), BAD);
        }
    }

    private static void told() {
        PageMender x = opened(5, 3, 2);
        x.erase(14);
        x.erase(14);
        x.mark(14, 1, true);
        x.mark(14, 2, true);
        x.mark(14, 3, true);
        x.stick(14, 5, 1);
        for (int page = 0; page < 16; page++) {
            for (int k = 0; k <= page; k++) {
                x.flip(page, 30 - k);
            }
        }
        due("24 wear", x.told(14, 0), 2);
        due("24 marks", x.told(14, 1), 3);
        due("24 stuck bits", x.told(14, 2), 1);
        due("24 bits that are 0", x.told(14, 3), 15);
        for (int what = 4; what < 20; what++) {
            int other = (14 + what - 4) % 16;
            due("24 apart from page " + other, x.told(14, what), Math.abs(14 - other));
        }
        due("24 the last and the first", x.told(15, 5), 15);
        due("24 the first and the last", x.told(0, 19), 15);
        for (int what : new int[] {-1, 20, MIN, MAX}) {
            due("24 what = " + what, x.told(0, what), BAD);
        }
        for (int page : new int[] {-1, 16, MIN, MAX}) {
            due("24 page " + page, x.told(page, 0), BAD);
        }
    }

    private static void about() {
        PageMender x = opened(9, 4, 20);
        int[] want = {9, 4, 20, 36, 196, 0, 0, 0};
        for (int what = 0; what < 8; what++) {
            due("25 about(" + what + ")", x.about(what), want[what]);
        }
        x.read(0);
        x.read(0);
        x.read(0);
        x.flip(0, 1);
        x.read(0);
        x.read(0);
        for (int k = 0; k < 9; k++) {
            x.mark(0, k, true);
        }
        x.read(0);
        x.read(16);
        x.copy(0, 0);
        x.copy(1, 1);
        x.refresh(0);
        due("25 that mended something", x.about(5), 2);
        due("25 that found a word RIGHT", x.about(6), 3);
        due("25 LOST", x.about(7), 1);
        for (int what : new int[] {-1, 8, MIN, MAX}) {
            due("25 about(" + what + ")", x.about(what), BAD);
        }
    }
}
