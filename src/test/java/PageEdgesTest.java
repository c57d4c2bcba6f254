import java.util.ArrayList;
import java.util.List;

/** Promises 13 to 18: each sentence that names a boundary, quoted over the test that holds it. */
public final class PageEdgesTest {
    private static final int NONE = PageMender.NONE;
    private static final int BAD = PageMender.BAD;
    private static final int MIN = Integer.MIN_VALUE;
    private static final int MAX = Integer.MAX_VALUE;
    private static final int[] NO_PAGE = {-1, 16, MIN, MAX};
    private static final int[] NO_BIT = {-1, 31, 32, 64, MIN, MAX};
    private static final Check CHECK = new Check("PageEdgesTest");

    public static void main(String[] args) {
        everyPage();
        writeHowMany();
        writeOverStuckBits();
        writeLeavesTheRest();
        eraseEmptyAndFull();
        eraseLeavesTheRest();
        flipBothWays();
        flipStuck();
        flipFarEnds();
        stickEachWay();
        stickNoMore();
        stickAll();
        markAgain();
        markAll();
        marksStayTillErase();
        bitEnds();
        CHECK.end();
    }

    private static PageMender opened(int m, int t, int d) {
        PageMender x = new PageMender();
        x.open(m, t, d);
        return x;
    }

    /** Pages 0 and 15 are there for each call, -1 and 16 are not. */
    private static void everyPage() {
        for (int page : new int[] {0, 15}) {
            PageMender x = opened(5, 3, 2);
            CHECK.due("write(" + page + ")", x.write(page), 0);
            CHECK.due("erase(" + page + ")", x.erase(page), 1);
            CHECK.due("flip(" + page + ", 0)", x.flip(page, 0), 0);
            CHECK.due("stick(" + page + ", 0, 1)", x.stick(page, 0, 1), 1);
            CHECK.due("mark(" + page + ", 0, true)", x.mark(page, 0, true), 1);
            CHECK.due("bit(" + page + ", 0)", x.bit(page, 0), 1);
        }
        for (int page : NO_PAGE) {
            PageMender x = opened(5, 3, 2);
            CHECK.due("write(" + page + ")", x.write(page), BAD);
            CHECK.due("erase(" + page + ")", x.erase(page), BAD);
            CHECK.due("flip(" + page + ", 0)", x.flip(page, 0), BAD);
            CHECK.due("stick(" + page + ", 0, 1)", x.stick(page, 0, 1), BAD);
            CHECK.due("mark(" + page + ", 0, true)", x.mark(page, 0, true), BAD);
            CHECK.due("bit(" + page + ", 0)", x.bit(page, 0), BAD);
        }
    }

    /** 13: "how many bits it has that are not those": none, some, and all of N. */
    private static void writeHowMany() {
        PageMender x = opened(5, 3, 2);
        CHECK.due("a full word of zeros on an erased page", x.write(0), 0);
        CHECK.due("all its bits are 0", x.told(0, 3), 31);
        x.fill(0, -1L);
        CHECK.due("ones on zeros: no bit rises", x.write(0), 31);
        CHECK.due("its bits are 0 yet", x.told(0, 3), 31);
        CHECK.due("ones on ones", x.write(1), 0);
        CHECK.due("its bits are 1 yet", x.told(1, 3), 0);
        x.flip(1, 30);
        CHECK.due("one bit of the tail is another one", x.write(1), 1);
        x.fill(0, 0L);
        CHECK.due("zeros on all that", x.write(1), 0);
        CHECK.due("again", x.write(1), 0);
    }

    private static void writeOverStuckBits() {
        PageMender x = opened(5, 3, 2);
        for (int k = 0; k < 31; k++) {
            x.stick(2, k, 1);
        }
        CHECK.due("zeros on a page that is all STUCK at 1", x.write(2), 31);
        CHECK.due("no bit is 0", x.told(2, 3), 0);
        x.fill(0, -1L);
        CHECK.due("ones on it", x.write(2), 0);
        for (int k = 0; k < 31; k++) {
            x.stick(3, k, 0);
        }
        CHECK.due("ones on a page that is all STUCK at 0", x.write(3), 31);
        x.fill(0, 0L);
        CHECK.due("zeros on it", x.write(3), 0);
    }

    private static void writeLeavesTheRest() {
        Scene before = Worn.scene();
        Scene after = before.then(x -> x.write(0));
        CHECK.same("13 the BUFFER, what was read and counted", after.seenBesidePages(), before.seenBesidePages());
        for (int page = 1; page < 16; page++) {
            CHECK.same("13 page " + page, ownLines(after, page), ownLines(before, page));
        }
        CHECK.due("13 MARKS stay", after.play().told(0, 1), 2);
    }

    /** What is seen of a page, but for what is told of it beside others. */
    private static List<String> ownLines(Scene scene, int page) {
        List<String> lines = new ArrayList<>(scene.seenOfPage(page));
        lines.subList(4, 20).clear();
        return lines;
    }

    /** 14: "A page is ERASED: its WEAR", from 1 on; it may be erased already, or have no bit that is 1. */
    private static void eraseEmptyAndFull() {
        PageMender x = opened(5, 3, 2);
        CHECK.due("an erased page", x.erase(0), 1);
        CHECK.due("again", x.erase(0), 2);
        x.write(0);
        CHECK.due("all bits are 0", x.told(0, 3), 31);
        CHECK.due("of zeros", x.erase(0), 3);
        CHECK.due("all bits are 1", x.told(0, 3), 0);
        for (int k = 0; k < 31; k++) {
            x.mark(0, k, true);
            x.stick(0, k, k % 2);
        }
        CHECK.due("all marked and STUCK", x.erase(0), 4);
        CHECK.due("no MARKS", x.told(0, 1), 0);
        CHECK.due("all STUCK", x.told(0, 2), 31);
        CHECK.due("those at 0 are 0", x.told(0, 3), 16);
        CHECK.due("another page", x.erase(15), 1);
    }

    private static void eraseLeavesTheRest() {
        Scene before = Worn.scene();
        Scene after = before.then(x -> x.erase(15));
        CHECK.due("14 its WEAR", after.answer(), 2);
        CHECK.same("14 the BUFFER, what was read and counted", after.seenBesidePages(), before.seenBesidePages());
        for (int page = 0; page < 15; page++) {
            CHECK.same("14 page " + page, ownLines(after, page), ownLines(before, page));
        }
        PageMender x = after.play();
        CHECK.due("14 a bit that is STUCK at 0", x.bit(15, 30), 0);
        CHECK.due("14 all others are 1", x.told(15, 3), 1);
    }

    /** 15: "A bit of a page is turned: what it is then": each bit, to 0 and to 1. */
    private static void flipBothWays() {
        PageMender x = opened(5, 3, 2);
        for (int k = 0; k < 31; k++) {
            CHECK.due("down, bit " + k, x.flip(6, k), 0);
            CHECK.due("one bit is 0", x.told(6, 3), 1);
            CHECK.due("it is bit " + k, x.bit(6, k), 0);
            CHECK.due("up, bit " + k, x.flip(6, k), 1);
        }
        CHECK.due("none is 0", x.told(6, 3), 0);
        for (int no : NO_BIT) {
            CHECK.due("flip(6, " + no + ")", x.flip(6, no), BAD);
        }
    }

    /** 15: "(as it was, when it is STUCK)" */
    private static void flipStuck() {
        for (int k : new int[] {0, 15, 16, 30}) {
            for (int v = 0; v <= 1; v++) {
                PageMender x = opened(5, 3, 2);
                x.stick(0, k, v);
                CHECK.due("STUCK at " + v + ", bit " + k, x.flip(0, k), v);
                CHECK.due("again", x.flip(0, k), v);
                CHECK.due("the same bit elsewhere", x.flip(1, k), 0);
                x.stick(0, k, NONE);
                CHECK.due("STUCK no more", x.flip(0, k), 1 - v);
            }
        }
    }

    /** Bits are numbered up to N - 1, whatever N is. */
    private static void flipFarEnds() {
        for (int[] c : new int[][] {{4, 1, 1}, {5, 5, 1}, {6, 7, 3}, {7, 8, 8}, {8, 8, 23}, {13, 8, 253}, {13, 8, 256}}) {
            PageMender x = opened(c[0], c[1], c[2]);
            int n = x.about(4);
            String of = " of N = " + n;
            CHECK.due("the last bit" + of, x.flip(15, n - 1), 0);
            CHECK.due("its neighbour" + of, x.bit(15, n - 2), 1);
            CHECK.due("mark the last" + of, x.mark(15, n - 1, true), 1);
            CHECK.due("stick the last" + of, x.stick(15, n - 1, 1), 1);
            CHECK.due("it is that" + of, x.bit(15, n - 1), 1);
            CHECK.due("flip beyond" + of, x.flip(15, n), BAD);
            CHECK.due("mark beyond" + of, x.mark(15, n, true), BAD);
            CHECK.due("stick beyond" + of, x.stick(15, n, 1), BAD);
            CHECK.due("bit beyond" + of, x.bit(15, n), BAD);
        }
    }

    /** 16: "A bit of a page is STUCK at v (0, 1), and is that": whatever it was, STUCK or not. */
    private static void stickEachWay() {
        for (int v = 0; v <= 1; v++) {
            for (int was = 0; was <= 1; was++) {
                PageMender x = opened(5, 3, 2);
                if (was == 0) {
                    x.flip(0, 30);
                }
                CHECK.due("stick at " + v + ", was " + was, x.stick(0, 30, v), 1);
                CHECK.due("is " + v + ", was " + was, x.bit(0, 30), v);
                CHECK.due("the other way", x.stick(0, 30, 1 - v), 1);
                CHECK.due("is that", x.bit(0, 30), 1 - v);
                CHECK.due("once more", x.stick(0, 30, 1 - v), 1);
                CHECK.due("its neighbour", x.bit(0, 29), 1);
            }
        }
        PageMender x = opened(5, 3, 2);
        for (int v : new int[] {-2, 2, -3, -4, 3, 255, MIN, MAX}) {
            CHECK.due("v = " + v, x.stick(0, 0, v), BAD);
        }
        for (int no : NO_BIT) {
            CHECK.due("stick(0, " + no + ", 1)", x.stick(0, no, 1), BAD);
            CHECK.due("stick(0, " + no + ", NONE)", x.stick(0, no, NONE), BAD);
        }
        CHECK.due("nothing is STUCK", x.told(0, 2), 0);
    }

    /** 16: "or is STUCK no more (NONE)": though it never was; the bit stays as it is. */
    private static void stickNoMore() {
        PageMender x = opened(5, 3, 2);
        CHECK.due("it never was", x.stick(0, 0, NONE), 0);
        CHECK.due("it is 1 yet", x.bit(0, 0), 1);
        x.flip(0, 0);
        CHECK.due("it never was, and is 0", x.stick(0, 0, NONE), 0);
        CHECK.due("it is 0 yet", x.bit(0, 0), 0);
        x.stick(0, 1, 0);
        x.stick(0, 2, 0);
        CHECK.due("one of two", x.stick(0, 1, NONE), 1);
        CHECK.due("it stays 0", x.bit(0, 1), 0);
        x.erase(0);
        CHECK.due("it can be erased", x.bit(0, 1), 1);
        CHECK.due("the other one can't", x.bit(0, 2), 0);
    }

    /** 16: "how many bits of the page are": from none to all N and back, of this page alone. */
    private static void stickAll() {
        PageMender x = opened(5, 3, 2);
        for (int k = 0; k < 31; k++) {
            CHECK.due("one more, " + k, x.stick(9, k, k & 1), k + 1);
        }
        CHECK.due("of another page", x.stick(10, 0, 0), 1);
        for (int k = 30; k >= 0; k--) {
            CHECK.due("one less, " + k, x.stick(9, k, NONE), k);
        }
    }

    /** 17: "A bit of a page is MARKED, or is so no more": though it was, or was not. */
    private static void markAgain() {
        PageMender x = opened(5, 3, 2);
        CHECK.due("it was not", x.mark(0, 30, false), 0);
        CHECK.due("MARKED", x.mark(0, 30, true), 1);
        CHECK.due("it was", x.mark(0, 30, true), 1);
        CHECK.due("no more", x.mark(0, 30, false), 0);
        CHECK.due("it was not again", x.mark(0, 30, false), 0);
        CHECK.due("the bit stays", x.bit(0, 30), 1);
        for (int no : NO_BIT) {
            CHECK.due("mark(0, " + no + ", true)", x.mark(0, no, true), BAD);
            CHECK.due("mark(0, " + no + ", false)", x.mark(0, no, false), BAD);
        }
    }

    /** 17: "how many bits of the page are": from none to all N and back, of this page alone. */
    private static void markAll() {
        PageMender x = opened(5, 3, 2);
        for (int k = 0; k < 31; k++) {
            CHECK.due("one more, " + k, x.mark(9, k, true), k + 1);
        }
        CHECK.due("of another page", x.mark(10, 0, true), 1);
        CHECK.due("no bit is turned by it", x.told(9, 3), 0);
        for (int k = 30; k >= 0; k--) {
            CHECK.due("one less, " + k, x.mark(9, k, false), k);
        }
    }

    /** 17: "(MARKS stay till erase().)" */
    private static void marksStayTillErase() {
        Scene.Call[] others = {
            x -> x.put(0, 5), x -> x.write(0), x -> x.flip(0, 3), x -> x.flip(0, 3), x -> x.stick(0, 3, 0),
            x -> x.stick(0, 3, NONE), x -> x.read(0), x -> x.mark(1, 3, true), x -> x.erase(1), x -> x.copy(0, 2),
            x -> x.refresh(64), x -> x.open(5, 3, 3)
        };
        PageMender x = opened(5, 3, 2);
        x.mark(0, 3, true);
        for (int i = 0; i < others.length; i++) {
            others[i].on(x);
            CHECK.due("after call " + i, x.told(0, 1), 1);
        }
        x.erase(0);
        CHECK.due("after erase()", x.told(0, 1), 0);
        CHECK.due("none comes back", x.mark(0, 5, true), 1);
    }

    /** 18: "A page as it is": its first bit and its last, the others untouched. */
    private static void bitEnds() {
        PageMender x = opened(5, 3, 2);
        for (int page : new int[] {0, 15}) {
            for (int k : new int[] {0, 15, 16, 30}) {
                CHECK.due("erased", x.bit(page, k), 1);
                x.flip(page, k);
                CHECK.due("turned", x.bit(page, k), 0);
                x.mark(page, k, true);
                CHECK.due("marked, it is as it was", x.bit(page, k), 0);
                x.stick(page, k, 1);
                CHECK.due("STUCK at 1", x.bit(page, k), 1);
            }
            for (int no : NO_BIT) {
                CHECK.due("bit(" + page + ", " + no + ")", x.bit(page, no), BAD);
            }
        }
    }
}
