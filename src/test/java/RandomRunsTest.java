import java.util.Random;

/** Long runs of calls, each answer beside that of the Model, and at the end all that can be seen. */
public final class RandomRunsTest {
    private static final int CALLS = 400;
    private final Check check;
    private final Random random;
    private PageMender x;
    private Model y;

    private RandomRunsTest(Check check, long seed) {
        this.check = check;
        random = new Random(seed);
    }

    public static void main(String[] args) {
        Check check = new Check("RandomRunsTest");
        long seed = 1;
        for (int m = 4; m <= 13; m++) {
            for (int t = 1; t <= 8; t++) {
                for (int d = 1; d <= 2; d++) {
                    if (d == 1 || m < 7) {
                        for (int again = 0; again < (d == 1 ? 3 : 1); again++) {
                            new RandomRunsTest(check, seed++).run(m, t, d);
                        }
                    }
                }
            }
        }
        check.end();
    }

    private void run(int m, int t, int d) {
        x = new PageMender();
        y = new Model();
        if (y.open(m, t, d) < 0) {
            check.due("open", x.open(m, t, d), Model.BAD);
            return;
        }
        check.due("open(" + m + ", " + t + ", " + d + ")", x.open(m, t, d), y.r);
        for (int i = 0; i < CALLS; i++) {
            if (random.nextInt(3) == 0) {
                fieldOrBuffer();
            } else {
                pageCall();
            }
            if (i % 100 == 99) {
                lookAtAll();
            }
        }
    }

    /** Mostly within 0 .. most, at times just outside or far from it. */
    private int number(int most) {
        switch (random.nextInt(24)) {
            case 0:
                return -1;
            case 1:
                return most + 1;
            case 2:
                return most;
            case 3:
                return random.nextInt();
            default:
                return random.nextInt(most + 1);
        }
    }

    /** A few pages are met often, so that what is done to them comes together. */
    private int page() {
        return random.nextInt(4) == 0 ? number(15) : random.nextInt(3);
    }

    private void fieldOrBuffer() {
        int top = (1 << y.m) - 1;
        int a = number(top);
        int b = number(top);
        int i = number(y.d - 1);
        int at = number(y.r - 1);
        int far = number(200000) - 100000;
        long v = random.nextLong();
        switch (random.nextInt(10)) {
            case 0 -> check.due("times(" + a + ", " + b + ")", x.times(a, b), y.times(a, b));
            case 1 -> check.due("inverse(" + a + ")", x.inverse(a), y.inverse(a));
            case 2 -> check.due("power(" + far + ")", x.power(far), y.power(far));
            case 3 -> check.due("log(" + a + ")", x.log(a), y.log(a));
            case 4 -> check.due("minimal(" + a + ")", x.minimal(a), y.minimal(a));
            case 5 -> check.due("generator(" + at + ")", x.generator(at), y.generator(at));
            case 6 -> check.due("put(" + i + ", " + a + ")", x.put(i, a), y.put(i, a));
            case 7 -> check.due("fill(" + i + ", " + v + ")", x.fill(i, v), y.fill(i, v));
            case 8 -> check.due("get(" + i + ")", x.get(i), y.get(i));
            default -> check.due("tail(" + at + ")", x.tail(at), y.tail(at));
        }
    }

    private void pageCall() {
        int p = page();
        int q = page();
        int k = number(y.n - 1);
        int v = number(2) - 1;
        boolean is = random.nextInt(3) > 0;
        switch (random.nextInt(22)) {
            case 0, 1 -> check.due("write(" + p + ")", x.write(p), y.write(p));
            case 2 -> check.due("erase(" + p + ")", x.erase(p), y.erase(p));
            case 3, 4, 5, 6 -> check.due("flip(" + p + ", " + k + ")", x.flip(p, k), y.flip(p, k));
            case 7 -> check.due("stick(" + p + ", " + k + ", " + v + ")", x.stick(p, k, v), y.stick(p, k, v));
            case 8, 9, 10 -> check.due("mark(" + p + ", " + k + ", " + is + ")", x.mark(p, k, is), y.mark(p, k, is));
            case 11 -> check.due("bit(" + p + ", " + k + ")", x.bit(p, k), y.bit(p, k));
            case 12, 13, 14, 15 -> check.due("read(" + p + ")", x.read(p), y.read(p));
            case 16 -> check.due("turned(" + v + ")", x.turned(v), y.turned(v));
            case 17 -> syndrome(p);
            case 18, 19 -> check.due("copy(" + p + ", " + q + ")", x.copy(p, q), y.copy(p, q));
            case 20 -> refresh();
            default -> told(p);
        }
    }

    private void syndrome(int p) {
        int i = number(2 * y.t + 1);
        check.due("syndrome(" + p + ", " + i + ")", x.syndrome(p, i), y.syndrome(p, i));
    }

    private void refresh() {
        int most = random.nextBoolean() ? number(64) : 1 + random.nextInt(3);
        check.due("refresh(" + most + ")", x.refresh(most), y.refresh(most));
    }

    private void told(int p) {
        int what = number(19);
        check.due("told(" + p + ", " + what + ")", x.told(p, what), y.told(p, what));
    }

    private void lookAtAll() {
        for (int p = 0; p < 16; p++) {
            for (int k = 0; k < y.n; k++) {
                check.due("then bit(" + p + ", " + k + ")", x.bit(p, k), y.bit(p, k));
            }
            for (int what = 0; what < 20; what++) {
                check.due("then told(" + p + ", " + what + ")", x.told(p, what), y.told(p, what));
            }
        }
        for (int i = 0; i < y.d; i++) {
            check.due("then get(" + i + ")", x.get(i), y.get(i));
        }
        for (int i = -1; i < 20; i++) {
            check.due("then turned(" + i + ")", x.turned(i), y.turned(i));
        }
        for (int what = 0; what < 8; what++) {
            check.due("then about(" + what + ")", x.about(what), y.about(what));
        }
    }
}
