import java.util.ArrayList;
import java.util.List;

/**
 * "ERRORS are numbers below 0, of several the first that the call names; what is refused changes
 * nothing." Every call of the face, with each of its numbers too small or too large, one alone and
 * all at once: what it answers, and that all that can be seen stays as it was.
 */
public final class RefusedTest {
    private static final int MIN = Integer.MIN_VALUE;
    private static final int MAX = Integer.MAX_VALUE;
    private static final int[] NO_PAGE = {-1, 16, MIN, MAX};
    private static final int[] NO_BIT = {-1, Worn.N, MIN, MAX};
    private static final int[] NO_BYTE = {-1, Worn.D, 256, MIN, MAX};
    private static final int[] NO_NUMBER = {-1, 32, MIN, MAX};
    private static final int[] NO_VALUE = {-2, 2, MIN, MAX};
    private static final Check CHECK = new Check("RefusedTest");

    private record Named(String name, Scene.Call call) {
    }

    private final List<Named> bad = new ArrayList<>();

    public static void main(String[] args) {
        RefusedTest test = new RefusedTest();
        test.collectOpen();
        test.collectField();
        test.collectBuffer();
        test.collectPages();
        test.collectBits();
        test.collectTold();
        test.badOnes();
        test.closedAheadOfBad();
        closedOnes();
        badAheadOfLost();
        lostOnes();
        CHECK.end();
    }

    private void add(String name, Scene.Call call) {
        bad.add(new Named(name, call));
    }

    private void collectOpen() {
        for (int m : new int[] {2, 14, 0, -1, MIN, MAX}) {
            add("open(" + m + ", 1, 1)", x -> x.open(m, 1, 1));
            add("open(" + m + ", 0, 0)", x -> x.open(m, 0, 0));
        }
        for (int t : new int[] {0, 9, -1, MIN, MAX}) {
            add("open(8, " + t + ", 1)", x -> x.open(8, t, 1));
            add("open(13, " + t + ", 257)", x -> x.open(13, t, 257));
        }
        for (int d : new int[] {0, 257, -1, MIN, MAX}) {
            add("open(13, 1, " + d + ")", x -> x.open(13, 1, d));
        }
        for (int[] c : new int[][] {{3, 1, 1}, {4, 2, 1}, {4, 1, 2}, {5, 3, 3}, {5, 4, 2}, {8, 1, 31}, {11, 5, 250}}) {
            add("open(" + c[0] + ", " + c[1] + ", " + c[2] + ")", x -> x.open(c[0], c[1], c[2]));
        }
    }

    private void collectField() {
        for (int a : NO_NUMBER) {
            add("times(" + a + ", 0)", x -> x.times(a, 0));
            add("times(0, " + a + ")", x -> x.times(0, a));
            add("times(" + a + ", " + a + ")", x -> x.times(a, a));
            add("inverse(" + a + ")", x -> x.inverse(a));
            add("log(" + a + ")", x -> x.log(a));
        }
        add("inverse(0)", x -> x.inverse(0));
        add("log(0)", x -> x.log(0));
        for (int i : new int[] {-100001, 100001, MIN, MAX}) {
            add("power(" + i + ")", x -> x.power(i));
        }
        for (int i : new int[] {-1, 31, MIN, MAX}) {
            add("minimal(" + i + ")", x -> x.minimal(i));
        }
        for (int i : new int[] {-1, MIN}) {
            add("generator(" + i + ")", x -> x.generator(i));
        }
    }

    private void collectBuffer() {
        for (int i : NO_BYTE) {
            add("put(" + i + ", 0)", x -> x.put(i, 0));
            add("put(" + i + ", -1)", x -> x.put(i, -1));
            add("fill(" + i + ", -1)", x -> x.fill(i, -1L));
            add("fill(" + i + ", 0)", x -> x.fill(i, 0L));
            add("get(" + i + ")", x -> x.get(i));
        }
        for (int i : new int[] {-1, Worn.R, MIN, MAX}) {
            add("tail(" + i + ")", x -> x.tail(i));
        }
    }

    private void collectPages() {
        for (int page : NO_PAGE) {
            add("write(" + page + ")", x -> x.write(page));
            add("erase(" + page + ")", x -> x.erase(page));
            add("read(" + page + ")", x -> x.read(page));
            add("copy(" + page + ", 0)", x -> x.copy(page, 0));
            add("copy(0, " + page + ")", x -> x.copy(0, page));
            add("copy(" + page + ", " + page + ")", x -> x.copy(page, page));
        }
        for (int most : new int[] {-1, 65, MIN, MAX}) {
            add("refresh(" + most + ")", x -> x.refresh(most));
        }
    }

    private void collectBits() {
        for (int page : NO_PAGE) {
            addBit(page, 0);
            addBit(page, -1);
        }
        for (int bit : NO_BIT) {
            addBit(0, bit);
            addBit(15, bit);
        }
        for (int v : NO_VALUE) {
            add("stick(0, 0, " + v + ")", x -> x.stick(0, 0, v));
            add("stick(1, 3, " + v + ")", x -> x.stick(1, 3, v));
            add("stick(16, 31, " + v + ")", x -> x.stick(16, 31, v));
        }
    }

    private void addBit(int page, int bit) {
        String at = "(" + page + ", " + bit;
        add("flip" + at + ")", x -> x.flip(page, bit));
        add("stick" + at + ", 0)", x -> x.stick(page, bit, 0));
        add("stick" + at + ", NONE)", x -> x.stick(page, bit, PageMender.NONE));
        add("mark" + at + ", true)", x -> x.mark(page, bit, true));
        add("mark" + at + ", false)", x -> x.mark(page, bit, false));
        add("bit" + at + ")", x -> x.bit(page, bit));
    }

    private void collectTold() {
        for (int page : NO_PAGE) {
            add("syndrome(" + page + ", 1)", x -> x.syndrome(page, 1));
            add("told(" + page + ", 0)", x -> x.told(page, 0));
            add("told(" + page + ", 4)", x -> x.told(page, 4));
        }
        for (int i : new int[] {0, -1, 7, MIN, MAX}) {
            add("syndrome(0, " + i + ")", x -> x.syndrome(0, i));
            add("syndrome(16, " + i + ")", x -> x.syndrome(16, i));
        }
        for (int what : new int[] {-1, 20, MIN, MAX}) {
            add("told(0, " + what + ")", x -> x.told(0, what));
            add("told(15, " + what + ")", x -> x.told(15, what));
        }
        for (int what : new int[] {-1, 8, MIN, MAX}) {
            add("about(" + what + ")", x -> x.about(what));
        }
    }

    private void badOnes() {
        List<String> before = Worn.scene().seen();
        for (Named one : bad) {
            Scene after = Worn.scene().then(one.call());
            CHECK.due(one.name(), after.answer(), PageMender.BAD);
            CHECK.same(one.name() + " changes nothing", after.seen(), before);
        }
    }

    /** CLOSED is the first that a call names; open() alone does not name it. */
    private void closedAheadOfBad() {
        for (Named one : bad) {
            boolean opens = one.name().startsWith("open(");
            int want = opens ? PageMender.BAD : PageMender.CLOSED;
            CHECK.due(one.name() + " without a code", Scene.of(one.call()).answer(), want);
        }
    }

    /** Without a code each call is refused, whatever its numbers are, and leaves nothing behind. */
    private static void closedOnes() {
        Scene.Call[] good = {
            x -> x.times(1, 1), x -> x.inverse(1), x -> x.power(0), x -> x.log(1), x -> x.minimal(0),
            x -> x.generator(0), x -> x.put(0, 255), x -> x.fill(0, -1L), x -> x.get(0), x -> x.tail(0),
            x -> x.write(0), x -> x.erase(0), x -> x.flip(0, 0), x -> x.stick(0, 1, 0), x -> x.mark(0, 2, true),
            x -> x.bit(0, 0), x -> x.read(0), x -> x.syndrome(0, 1), x -> x.copy(0, 1), x -> x.refresh(0),
            x -> x.told(0, 0), x -> x.about(0)
        };
        for (int i = 0; i < good.length; i++) {
            CHECK.due("call " + i + " without a code", Scene.of(good[i]).answer(), PageMender.CLOSED);
            Scene refusedOpen = Scene.of(x -> x.open(5, 3, 3), good[i]);
            CHECK.due("call " + i + " after a refused open()", refusedOpen.answer(), PageMender.CLOSED);
        }
        Scene.Call first = x -> x.open(5, 3, 2);
        CHECK.same("what was CLOSED left nothing", Scene.of(good).then(first).seen(), Scene.of(first).seen());
    }

    /** copy() names BAD ahead of LOST. */
    private static void badAheadOfLost() {
        for (int from : new int[] {Worn.TURNED_TOO_MUCH, Worn.MARKED_TOO_MUCH}) {
            for (int to : NO_PAGE) {
                Scene after = Worn.scene().then(x -> x.copy(from, to));
                CHECK.due("copy(" + from + ", " + to + ")", after.answer(), PageMender.BAD);
            }
        }
    }

    private static void lostOnes() {
        List<String> before = Worn.scene().seen();
        for (int from : new int[] {Worn.TURNED_TOO_MUCH, Worn.MARKED_TOO_MUCH}) {
            for (int to = 0; to < 16; to++) {
                int other = to;
                Scene after = Worn.scene().then(x -> x.copy(from, other));
                CHECK.due("copy(" + from + ", " + to + ")", after.answer(), PageMender.LOST);
                CHECK.same("copy(" + from + ", " + to + ") changes nothing", after.seen(), before);
            }
        }
    }
}
