import java.util.Random;
import java.util.TreeSet;

/** Words with bits turned and bits marked, up to what can be mended and beyond, in every field. */
public final class MendingTest {
    private static final Check CHECK = new Check("MendingTest");
    private static final Random RANDOM = new Random(7);

    public static void main(String[] args) {
        for (int m = 4; m <= 13; m++) {
            for (int t = 1; t <= 8; t++) {
                besideTheModel(m, t);
                for (int d : new int[] {1, 2, 5, 31, 100, 255, 256}) {
                    withinReach(m, t, d);
                }
            }
        }
        everyWordOfASmallCode();
        CHECK.end();
    }

    /** Near the edge of what can be mended: LOST or not, and to what, by all 256 RIGHT words. */
    private static void besideTheModel(int m, int t) {
        Model y = new Model();
        if (y.open(m, t, 1) < 0) {
            return;
        }
        for (int again = 0; again < 60; again++) {
            PageMender x = new PageMender();
            x.open(m, t, 1);
            y.open(m, t, 1);
            int data = RANDOM.nextInt(256);
            x.put(0, data);
            y.put(0, data);
            x.write(5);
            y.write(5);
            int marks = Math.min(RANDOM.nextInt(2 * t + 2), y.n / 2);
            int beside = Math.max(0, (2 * t - marks) / 2 + RANDOM.nextInt(3) - 1);
            for (int i = 0; i < marks + beside; i++) {
                int k = RANDOM.nextInt(y.n);
                if (i >= marks || RANDOM.nextBoolean()) {
                    CHECK.due("flip", x.flip(5, k), y.flip(5, k));
                }
                if (i < marks) {
                    CHECK.due("mark", x.mark(5, k, true), y.mark(5, k, true));
                }
            }
            String what = "(" + m + ", " + t + ", 1) with " + marks + " marks, " + beside + " beside them: ";
            for (int i = 1; i <= 2 * t; i++) {
                CHECK.due(what + "syndrome", x.syndrome(5, i), y.syndrome(5, i));
            }
            CHECK.due(what + "read", x.read(5), y.read(5));
            CHECK.due(what + "get", x.get(0), y.get(0));
            for (int i = 0; i < 2 * t + 2; i++) {
                CHECK.due(what + "turned", x.turned(i), y.turned(i));
            }
        }
    }

    /** What was turned is known here, so what must come back is too, for long words as well. */
    private static void withinReach(int m, int t, int d) {
        PageMender x = new PageMender();
        if (x.open(m, t, d) < 0) {
            return;
        }
        int n = x.about(4);
        for (int again = 0; again < 12; again++) {
            int[] data = new int[d];
            for (int i = 0; i < d; i++) {
                data[i] = RANDOM.nextInt(256);
                x.put(i, data[i]);
            }
            int page = RANDOM.nextInt(16);
            x.erase(page);
            CHECK.due("write", x.write(page), 0);
            TreeSet<Integer> turned = damage(x, page, n, t);
            for (int i = 0; i < d; i++) {
                x.put(i, RANDOM.nextInt(256));
            }
            String what = "(" + m + ", " + t + ", " + d + ") turned at " + turned + ": ";
            CHECK.due(what + "read", x.read(page), turned.size());
            int i = 0;
            for (int k : turned) {
                CHECK.due(what + "turned", x.turned(i), k);
                i++;
            }
            CHECK.due(what + "turned", x.turned(i), PageMender.NONE);
            for (i = 0; i < d; i++) {
                CHECK.due(what + "get", x.get(i), data[i]);
            }
        }
    }

    private static TreeSet<Integer> damage(PageMender x, int page, int n, int t) {
        TreeSet<Integer> places = new TreeSet<>();
        TreeSet<Integer> turned = new TreeSet<>();
        int marks = RANDOM.nextInt(2 * t + 1);
        int beside = (2 * t - marks) / 2;
        while (places.size() < marks + beside) {
            int k = RANDOM.nextInt(4) == 0 ? (RANDOM.nextBoolean() ? 0 : n - 1) : RANDOM.nextInt(n);
            if (!places.add(k)) {
                continue;
            }
            boolean marked = places.size() <= marks;
            if (marked) {
                x.mark(page, k, true);
            }
            if (!marked || RANDOM.nextBoolean()) {
                x.flip(page, k);
                turned.add(k);
            }
        }
        return turned;
    }

    /** All 4096 words of (4, 1, 1), each with no marks, one and two. */
    private static void everyWordOfASmallCode() {
        PageMender x = new PageMender();
        Model y = new Model();
        for (int word = 0; word < 4096; word++) {
            x.open(4, 1, 1);
            y.open(4, 1, 1);
            for (int k = 0; k < 12; k++) {
                if ((word >> k & 1) == 0) {
                    x.flip(0, k);
                    y.flip(0, k);
                }
            }
            CHECK.due("read of " + word, x.read(0), y.read(0));
            for (int marks = 1; marks <= 2; marks++) {
                int k = RANDOM.nextInt(12);
                CHECK.due("mark", x.mark(0, k, true), y.mark(0, k, true));
                CHECK.due("read of " + word + " with marks", x.read(0), y.read(0));
                CHECK.due("get", x.get(0), y.get(0));
            }
            if (word % 64 == 63) {
                x = new PageMender();
            }
        }
    }
}
