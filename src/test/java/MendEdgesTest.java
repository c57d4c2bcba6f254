import java.util.ArrayList;
import java.util.List;

/** Promises 19 to 25: each sentence that names a boundary, quoted over the test that holds it. */
public final class MendEdgesTest {
    private static final int NONE = PageMender.NONE;
    private static final int BAD = PageMender.BAD;
    private static final int LOST = PageMender.LOST;
    private static final int MIN = Integer.MIN_VALUE;
    private static final int MAX = Integer.MAX_VALUE;
    private static final int[] NO_PAGE = {-1, 16, MIN, MAX};
    private static final Check CHECK = new Check("MendEdgesTest");

    public static void main(String[] args) {
        readLeavesThePage();
        readHowMany();
        readLostLeavesTheBuffer();
        readEveryPage();
        readTwoMarksForOneBit();
        turnedAtFirst();
        turnedByRisingNumbers();
        turnedOfTheLatest();
        turnedOfTheMost();
        syndromeEnds();
        syndromeHasNoMarks();
        copyToAnother();
        copyToItself();
        copyOverStuckBits();
        copyLost();
        copyLeavesTheBuffer();
        refreshBounds();
        refreshMostOrMore();
        refreshByMarks();
        refreshLeavesTheRest();
        toldEachKind();
        toldFromTheLastOn();
        toldEnds();
        aboutCounts();
        aboutEnds();
        CHECK.end();
    }

    private static PageMender opened(int m, int t, int d) {
        PageMender x = new PageMender();
        x.open(m, t, d);
        return x;
    }

    private static void flipAll(PageMender x, int page, int... bits) {
        for (int k : bits) {
            x.flip(page, k);
        }
    }

    private static void markAll(PageMender x, int page, int... bits) {
        for (int k : bits) {
            x.mark(page, k, true);
        }
    }

    /** The bytes 0x69 and 0xD2 on page 0 of (5, 3, 2). */
    private static PageMender written() {
        PageMender x = opened(5, 3, 2);
        x.fill(0, 0x69D2L << 48);
        x.write(0);
        return x;
    }

    /** 19: "(the page stays)", and all other pages, MARKS, STUCK bits and WEAR too */
    private static void readLeavesThePage() {
        Scene before = Worn.scene();
        List<String> pagesBefore = pages(before);
        for (int page = 0; page < 16; page++) {
            int at = page;
            CHECK.same("read(" + page + ") leaves the chip", pages(before.then(x -> x.read(at))), pagesBefore);
        }
    }

    private static List<String> pages(Scene scene) {
        List<String> lines = new ArrayList<>();
        for (int page = 0; page < 16; page++) {
            lines.addAll(scene.seenOfPage(page));
        }
        return lines;
    }

    /** 19: "the BUFFER is its DATA then, and how many bits were other ones": 0 to T, in DATA and TAIL. */
    private static void readHowMany() {
        int[][] turned = {{}, {0}, {15}, {16}, {30}, {0, 30}, {15, 16}, {0, 15, 30}, {16, 17, 30}, {0, 1, 2}};
        for (int[] bits : turned) {
            PageMender x = written();
            flipAll(x, 0, bits);
            x.fill(0, 0L);
            CHECK.due(bits.length + " bits", x.read(0), bits.length);
            CHECK.due("byte 0", x.get(0), 0x69);
            CHECK.due("byte 1", x.get(1), 0xD2);
        }
    }

    /** 19: "LOST: the BUFFER stays." */
    private static void readLostLeavesTheBuffer() {
        for (int page : new int[] {Worn.TURNED_TOO_MUCH, Worn.MARKED_TOO_MUCH}) {
            PageMender x = Worn.scene().play();
            CHECK.due("read(" + page + ")", x.read(page), LOST);
            CHECK.due("byte 0 stays", x.get(0), 0xA5);
            CHECK.due("byte 1 stays", x.get(1), 0x42);
            CHECK.due("turned(0) stays", x.turned(0), 4);
            CHECK.due("turned(1) stays", x.turned(1), 30);
            CHECK.due("it is counted", x.about(7), 2);
        }
        PageMender x = written();
        flipAll(x, 0, 0, 10, 20, 30);
        x.fill(0, 0x1234L << 48);
        CHECK.due("T + 1 bits", x.read(0), LOST);
        CHECK.due("byte 0 stays", x.get(0), 0x12);
        CHECK.due("byte 1 stays", x.get(1), 0x34);
        x.flip(0, 20);
        CHECK.due("T bits", x.read(0), 3);
    }

    private static void readEveryPage() {
        for (int page = 0; page < 16; page++) {
            PageMender x = opened(5, 3, 2);
            x.put(0, page);
            x.write(page);
            x.flip(page, 30);
            x.put(0, 77);
            CHECK.due("read(" + page + ")", x.read(page), 1);
            CHECK.due("read(" + page + ") brings its data", x.get(0), page);
        }
        for (int page : NO_PAGE) {
            CHECK.due("read(" + page + ")", written().read(page), BAD);
        }
    }

    /** 19: "MENDED, with its MARKS": two marks for one bit; the count has marked bits that were turned. */
    private static void readTwoMarksForOneBit() {
        PageMender x = written();
        markAll(x, 0, 0, 8, 16, 24, 29, 30);
        CHECK.due("2 T marks on a RIGHT word", x.read(0), 0);
        flipAll(x, 0, 0, 8, 16, 24, 29, 30);
        CHECK.due("all of them turned", x.read(0), 6);
        x.flip(0, 1);
        CHECK.due("and one more", x.read(0), LOST);
        x.mark(0, 30, false);
        x.flip(0, 30);
        CHECK.due("an odd number of marks, and one more", x.read(0), LOST);
        x.mark(0, 29, false);
        x.flip(0, 29);
        CHECK.due("2 T - 2 marks, and one more", x.read(0), 5);
        x.flip(0, 1);
        markAll(x, 0, 27, 28, 26);
        CHECK.due("2 T + 1 marks", x.read(0), LOST);
        flipAll(x, 0, 0, 8, 16, 24);
        CHECK.due("2 T + 1 marks on a RIGHT word", x.read(0), LOST);
        x.mark(0, 26, false);
        CHECK.due("2 T marks on it", x.read(0), 0);
    }

    /** 20: "NONE": nothing was read, the word was RIGHT, or the number is too small or too large. */
    private static void turnedAtFirst() {
        PageMender x = written();
        CHECK.due("nothing was read", x.turned(0), NONE);
        x.read(0);
        CHECK.due("a RIGHT word", x.turned(0), NONE);
        x.flip(0, 0);
        CHECK.due("one bit", x.read(0), 1);
        CHECK.due("bit 0 is no NONE", x.turned(0), 0);
        for (int no : new int[] {1, 2, 31, MAX, -1, -2, MIN}) {
            CHECK.due("turned(" + no + ")", x.turned(no), NONE);
        }
        x.read(1);
        CHECK.due("a RIGHT word after it", x.turned(0), NONE);
        x.read(0);
        x.open(5, 3, 2);
        CHECK.due("nothing was read since open()", x.turned(0), NONE);
    }

    /** 20: "the i-th bit (from 0, by rising numbers) that was another one" */
    private static void turnedByRisingNumbers() {
        PageMender x = written();
        flipAll(x, 0, 30, 0, 16);
        x.read(0);
        int[] want = {NONE, 0, 16, 30, NONE};
        for (int i = -1; i <= 3; i++) {
            CHECK.due("turned(" + i + ")", x.turned(i), want[i + 1]);
        }
        markAll(x, 0, 16, 15, 30, 1);
        x.read(0);
        for (int i = -1; i <= 3; i++) {
            CHECK.due("with marks, turned(" + i + ")", x.turned(i), want[i + 1]);
        }
    }

    /** 20: "Of the latest read() that was neither LOST nor refused" */
    private static void turnedOfTheLatest() {
        Scene.Call[] others = {
            x -> x.read(2), x -> x.read(16), x -> x.read(-1), x -> x.copy(3, 4), x -> x.copy(2, 3), x -> x.refresh(1),
            x -> x.flip(0, 5), x -> x.erase(0), x -> x.write(0), x -> x.put(0, 1), x -> x.open(5, 3, 3), x -> x.mark(0, 5, true)
        };
        PageMender x = written();
        flipAll(x, 0, 5, 25);
        flipAll(x, 2, 0, 9, 18, 27);
        flipAll(x, 3, 7);
        x.read(0);
        for (int i = 0; i < others.length; i++) {
            others[i].on(x);
            CHECK.due("turned(0) after call " + i, x.turned(0), 5);
            CHECK.due("turned(1) after call " + i, x.turned(1), 25);
            CHECK.due("turned(2) after call " + i, x.turned(2), NONE);
        }
        x.flip(9, 11);
        x.read(9);
        CHECK.due("a later one", x.turned(0), 11);
        CHECK.due("a later one has no second", x.turned(1), NONE);
    }

    /** As many as can be: 2 T marked bits, in the longest words. */
    private static void turnedOfTheMost() {
        PageMender x = opened(13, 8, 256);
        for (int j = 0; j < 16; j++) {
            int k = j * 143;
            x.mark(0, k, true);
            x.flip(0, k);
        }
        x.mark(0, 143 * 15, false);
        x.flip(0, 143 * 15);
        x.mark(0, 2151, true);
        x.flip(0, 2151);
        CHECK.due("16 bits", x.read(0), 16);
        for (int j = 0; j < 15; j++) {
            CHECK.due("turned(" + j + ")", x.turned(j), j * 143);
        }
        CHECK.due("the last bit", x.turned(15), 2151);
        CHECK.due("no more", x.turned(16), NONE);
    }

    /** 21: "SYNDROME i, 1 .. 2 T" */
    private static void syndromeEnds() {
        for (int t = 1; t <= 8; t++) {
            PageMender x = opened(8, t, 5);
            int n = x.about(4);
            x.flip(15, n - 2);
            for (int i = 1; i <= 2 * t; i++) {
                CHECK.due("syndrome " + i + ", T = " + t, x.syndrome(15, i), x.power(i));
                CHECK.due("of a RIGHT word", x.syndrome(0, i), 0);
            }
            for (int no : new int[] {0, -1, 2 * t + 1, MIN, MAX}) {
                CHECK.due("syndrome(15, " + no + "), T = " + t, x.syndrome(15, no), BAD);
            }
            for (int page : NO_PAGE) {
                CHECK.due("syndrome(" + page + ", 1)", x.syndrome(page, 1), BAD);
            }
        }
        // Here i times 27 goes round the 31 powers of A most often for the length of the word.
        PageMender x = opened(5, 5, 1);
        x.flip(0, 0);
        for (int i = 1; i <= 10; i++) {
            CHECK.due("bit 0 of 28, syndrome " + i, x.syndrome(0, i), Model.powerOf(27 * i, 5));
        }
    }

    private static void syndromeHasNoMarks() {
        PageMender x = written();
        x.flip(0, 3);
        int before = x.syndrome(0, 5);
        markAll(x, 0, 3, 4, 5);
        CHECK.due("marks change no syndrome", x.syndrome(0, 5), before);
    }

    /** 22: "it is MENDED, the other one ERASED, and PROGRAMMED with what it was MENDED to" */
    private static void copyToAnother() {
        PageMender x = written();
        flipAll(x, 0, 0, 15, 30);
        for (int k = 0; k < 31; k++) {
            x.flip(15, k);
            x.mark(15, k, true);
        }
        CHECK.due("T bits are wrong, the other page is all 0", x.copy(0, 15), 0);
        CHECK.due("the other has what is RIGHT", x.told(0, 19), 3);
        CHECK.due("its WEAR", x.told(15, 0), 1);
        CHECK.due("its MARKS went with what was ERASED", x.told(15, 1), 0);
        CHECK.due("the first has no WEAR", x.told(0, 0), 0);
        CHECK.due("the other is RIGHT", x.read(15), 0);
        CHECK.due("the first is wrong yet", x.read(0), 3);
        CHECK.due("from the last to the first", x.copy(15, 0), 0);
        CHECK.due("they are one", x.told(0, 19), 0);
        for (int page : NO_PAGE) {
            CHECK.due("copy(" + page + ", 0)", x.copy(page, 0), BAD);
            CHECK.due("copy(0, " + page + ")", x.copy(0, page), BAD);
        }
    }

    /** 22: "Copies a page to another one (or itself)" */
    private static void copyToItself() {
        PageMender x = written();
        flipAll(x, 0, 3, 20);
        markAll(x, 0, 20, 21);
        CHECK.due("to itself", x.copy(0, 0), 0);
        CHECK.due("its WEAR", x.told(0, 0), 1);
        CHECK.due("its MARKS", x.told(0, 1), 0);
        CHECK.due("it is RIGHT", x.read(0), 0);
        CHECK.due("byte 0", x.get(0), 0x69);
        CHECK.due("a RIGHT word to itself", x.copy(0, 0), 0);
        CHECK.due("its WEAR again", x.told(0, 0), 2);
        CHECK.due("an ERASED page to itself", x.copy(9, 9), 0);
        CHECK.due("has no bit that is 0", x.told(9, 3), 0);
        CHECK.due("but WEAR", x.told(9, 0), 1);
    }

    /** 22: "how many bits this one has that are not those": none to all N, by STUCK bits. */
    private static void copyOverStuckBits() {
        PageMender x = opened(5, 3, 2);
        x.write(0);
        for (int k = 0; k < 31; k++) {
            x.stick(1, k, 1);
        }
        CHECK.due("zeros to where all is STUCK at 1", x.copy(0, 1), 31);
        CHECK.due("zeros from there: it is RIGHT, all ones", x.copy(1, 2), 0);
        CHECK.due("no bit is 0", x.told(2, 3), 0);
        x.stick(0, 4, 0);
        x.stick(0, 5, 1);
        CHECK.due("one STUCK bit is wrong", x.copy(0, 0), 1);
        CHECK.due("both are STUCK yet", x.told(0, 2), 2);
        CHECK.due("that one", x.read(0), 1);
        CHECK.due("is bit 5", x.turned(0), 5);
        CHECK.due("STUCK bits are not copied", x.copy(0, 3), 0);
        CHECK.due("the other has none", x.told(3, 2), 0);
    }

    /** 22: "LOST" */
    private static void copyLost() {
        PageMender x = written();
        flipAll(x, 0, 0, 10, 20, 30);
        markAll(x, 1, 5);
        CHECK.due("T + 1 bits", x.copy(0, 1), LOST);
        CHECK.due("no WEAR", x.told(1, 0), 0);
        CHECK.due("MARKS stay", x.told(1, 1), 1);
        CHECK.due("the bits stay", x.told(1, 3), 0);
        CHECK.due("to itself", x.copy(0, 0), LOST);
        CHECK.due("no WEAR either", x.told(0, 0), 0);
        CHECK.due("it is not counted as a read()", x.about(7), 0);
        x.flip(0, 10);
        CHECK.due("T bits", x.copy(0, 1), 0);
    }

    /** 22: "(The BUFFER stays.)", and what read() told and was counted */
    private static void copyLeavesTheBuffer() {
        Scene before = Worn.scene();
        for (int[] pages : new int[][] {{0, 5}, {15, 15}, {4, 0}, {1, 2}, {2, 1}}) {
            Scene after = before.then(x -> x.copy(pages[0], pages[1]));
            String what = "copy(" + pages[0] + ", " + pages[1] + ")";
            CHECK.same(what, after.seenBesidePages(), before.seenBesidePages());
        }
    }

    /** 23: "(0 .. 64)" */
    private static void refreshBounds() {
        PageMender x = written();
        CHECK.due("0: every page", x.refresh(0), 16);
        CHECK.due("64: none", x.refresh(64), 0);
        for (int no : new int[] {-1, 65, MIN, MAX}) {
            CHECK.due("refresh(" + no + ")", x.refresh(no), BAD);
        }
        for (int page = 0; page < 16; page++) {
            CHECK.due("WEAR of page " + page, x.told(page, 0), 1);
        }
    }

    /** 23: "Each page .. that is MENDED by most bits or more .. is copied to itself (LOST ones stay): how many were." */
    private static void refreshMostOrMore() {
        for (int most = 0; most <= 5; most++) {
            PageMender x = written();
            for (int page = 0; page < 16; page++) {
                for (int k = 0; k < page % 5; k++) {
                    x.flip(page, 7 * k);
                }
            }
            // 4 bits are LOST; pages 0, 5, 10, 15 have none, and so on up to 3.
            int[] many = {4 + 3 + 3 + 3, 3 + 3 + 3, 3 + 3, 3, 0, 0};
            CHECK.due("refresh(" + most + ")", x.refresh(most), many[most]);
            for (int page = 0; page < 16; page++) {
                int wrong = page % 5;
                boolean copied = wrong < 4 && wrong >= most;
                String what = "refresh(" + most + "), page " + page;
                CHECK.due(what + ": WEAR", x.told(page, 0), copied ? 1 : 0);
                CHECK.due(what + ": read", x.read(page), wrong == 4 ? LOST : copied ? 0 : wrong);
            }
        }
    }

    /** Up to 2 T bits, when they are marked. */
    private static void refreshByMarks() {
        for (int most = 15; most <= 17; most++) {
            PageMender x = opened(8, 8, 23);
            for (int k = 0; k < 16; k++) {
                x.mark(15, 3 * k, true);
                x.flip(15, 3 * k);
            }
            CHECK.due("16 bits, refresh(" + most + ")", x.refresh(most), most <= 16 ? 1 : 0);
            CHECK.due("its MARKS", x.told(15, 1), most <= 16 ? 0 : 16);
            CHECK.due("its bits", x.told(15, 3), most <= 16 ? 0 : 16);
        }
        PageMender x = written();
        x.stick(0, 4, 0);
        x.flip(0, 9);
        CHECK.due("one bit STUCK, one turned", x.refresh(2), 1);
        CHECK.due("what is STUCK is wrong again", x.refresh(1), 1);
        CHECK.due("it alone", x.refresh(2), 0);
    }

    private static void refreshLeavesTheRest() {
        Scene before = Worn.scene();
        for (int most : new int[] {0, 1, 2, 64}) {
            Scene after = before.then(x -> x.refresh(most));
            CHECK.same("refresh(" + most + ")", after.seenBesidePages(), before.seenBesidePages());
            for (int page : new int[] {Worn.TURNED_TOO_MUCH, Worn.MARKED_TOO_MUCH}) {
                List<String> got = after.seenOfPage(page).subList(20, 20 + 6 + 31);
                CHECK.same("refresh(" + most + "), LOST page " + page, got, before.seenOfPage(page).subList(20, 20 + 6 + 31));
                CHECK.due("its MARKS", after.play().told(page, 1), before.play().told(page, 1));
                CHECK.due("its WEAR", after.play().told(page, 0), 0);
            }
        }
    }

    /** 24: "its WEAR (what = 0), MARKS (1), STUCK bits (2), bits that are 0 (3)": none, and all N. */
    private static void toldEachKind() {
        PageMender x = opened(5, 3, 2);
        for (int what = 0; what < 4; what++) {
            CHECK.due("at first, told(15, " + what + ")", x.told(15, what), 0);
        }
        x.erase(15);
        for (int k = 0; k < 31; k++) {
            x.mark(15, k, true);
            x.stick(15, k, 0);
        }
        CHECK.due("WEAR", x.told(15, 0), 1);
        CHECK.due("MARKS", x.told(15, 1), 31);
        CHECK.due("STUCK", x.told(15, 2), 31);
        CHECK.due("0", x.told(15, 3), 31);
        x = opened(13, 8, 256);
        x.flip(0, 0);
        CHECK.due("the first bit of the longest word", x.told(0, 3), 1);
        x.flip(0, 2151);
        CHECK.due("the last bit too", x.told(0, 3), 2);
    }

    /** 24: "the page that is as many behind as what less 4, 4 .. 19 (from the last one on to the first)" */
    private static void toldFromTheLastOn() {
        for (int page = 0; page < 16; page++) {
            PageMender x = opened(5, 3, 2);
            for (int p = 0; p < 16; p++) {
                for (int k = 0; k < p; k++) {
                    x.flip(p, k);
                }
            }
            for (int what = 4; what <= 19; what++) {
                int behind = page + what - 4;
                int other = behind > 15 ? behind - 16 : behind;
                CHECK.due("told(" + page + ", " + what + ")", x.told(page, what), Math.abs(page - other));
            }
        }
    }

    /** 24: "BAD" */
    private static void toldEnds() {
        PageMender x = opened(5, 3, 2);
        x.flip(15, 0);
        CHECK.due("the last of the last", x.told(15, 19), 1);
        CHECK.due("the page behind the last", x.told(15, 5), 1);
        CHECK.due("the page behind the first by 15", x.told(0, 19), 1);
        CHECK.due("itself", x.told(15, 4), 0);
        for (int what : new int[] {-1, 20, 21, MIN, MAX}) {
            CHECK.due("told(0, " + what + ")", x.told(0, what), BAD);
            CHECK.due("told(15, " + what + ")", x.told(15, what), BAD);
        }
        for (int page : NO_PAGE) {
            for (int what : new int[] {0, 3, 4, 19}) {
                CHECK.due("told(" + page + ", " + what + ")", x.told(page, what), BAD);
            }
        }
    }

    /** 25: "read() since open() that mended something (5), that found a word RIGHT (6), LOST (7)" */
    private static void aboutCounts() {
        PageMender x = written();
        counts("at first", x, 0, 0, 0);
        x.read(0);
        counts("a RIGHT word", x, 0, 1, 0);
        x.flip(0, 30);
        x.read(0);
        counts("one bit", x, 1, 1, 0);
        markAll(x, 0, 0, 1, 2, 3, 4, 30);
        x.read(0);
        counts("a marked bit alone", x, 2, 1, 0);
        x.flip(0, 30);
        x.read(0);
        counts("a RIGHT word with marks", x, 2, 2, 0);
        x.mark(0, 5, true);
        x.read(0);
        counts("a RIGHT word with too many marks", x, 2, 2, 1);
        x.read(16);
        x.read(-1);
        counts("refused", x, 2, 2, 1);
        x.copy(0, 1);
        x.copy(1, 2);
        x.refresh(0);
        counts("copy() and refresh()", x, 2, 2, 1);
        x.open(5, 3, 3);
        counts("a refused open()", x, 2, 2, 1);
        x.open(5, 3, 2);
        counts("open()", x, 0, 0, 0);
        x = written();
        for (int i = 1; i <= 400; i++) {
            x.read(0);
        }
        counts("400 times", x, 0, 400, 0);
    }

    private static void counts(String when, PageMender x, int mended, int right, int lost) {
        CHECK.due(when + ", mended", x.about(5), mended);
        CHECK.due(when + ", RIGHT", x.about(6), right);
        CHECK.due(when + ", LOST", x.about(7), lost);
    }

    private static void aboutEnds() {
        PageMender x = opened(13, 8, 256);
        int[] want = {13, 8, 256, 104, 2152, 0, 0, 0};
        for (int what = 0; what < 8; what++) {
            CHECK.due("about(" + what + ")", x.about(what), want[what]);
        }
        for (int no : new int[] {-1, 8, 9, MIN, MAX}) {
            CHECK.due("about(" + no + ")", x.about(no), BAD);
        }
    }
}
