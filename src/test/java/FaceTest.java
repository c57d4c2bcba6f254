import java.lang.management.ManagementFactory;
import java.lang.reflect.Constructor;
import java.lang.reflect.Field;
import java.lang.reflect.Method;
import java.lang.reflect.Modifier;
import java.util.Set;
import java.util.TreeSet;

/** The public face is the document's and no other; no call throws, and none but new makes objects. */
public final class FaceTest {
    private static final Check CHECK = new Check("FaceTest");
    private static final int[] ODD = {
        Integer.MIN_VALUE, -100001, -3, -2, -1, 0, 1, 2, 7, 8, 15, 16, 17, 31, 32, 64, 65, 255, 256, 2151, 2152,
        8191, 8192, 100001, Integer.MAX_VALUE
    };
    private static final String FACE = "about(int) bit(int,int) copy(int,int) erase(int) fill(int,long) flip(int,int)"
        + " generator(int) get(int) inverse(int) log(int) mark(int,int,boolean) minimal(int) open(int,int,int)"
        + " power(int) put(int,int) read(int) refresh(int) stick(int,int,int) syndrome(int,int) tail(int)"
        + " times(int,int) told(int,int) turned(int) write(int)";

    public static void main(String[] args) {
        face();
        oddNumbers();
        makesNoObjects();
        CHECK.end();
    }

    private static void face() {
        Set<String> methods = new TreeSet<>();
        Set<String> hidden = new TreeSet<>();
        for (Method method : PageMender.class.getDeclaredMethods()) {
            if (Modifier.isPrivate(method.getModifiers())) {
                hidden.add(method.getName());
                continue;
            }
            CHECK.holds(method + " is public", Modifier.isPublic(method.getModifiers()));
            CHECK.holds(method + " answers an int", method.getReturnType() == int.class);
            StringBuilder text = new StringBuilder(method.getName()).append('(');
            for (Class<?> type : method.getParameterTypes()) {
                text.append(text.charAt(text.length() - 1) == '(' ? "" : ",").append(type.getName());
            }
            methods.add(text.append(')').toString());
        }
        CHECK.holds("the methods are " + methods, String.join(" ", methods).equals(FACE));
        for (String name : methods) {
            CHECK.holds(name + " has no private namesake", !hidden.contains(name.substring(0, name.indexOf('('))));
        }
        Set<String> constants = new TreeSet<>();
        for (Field field : PageMender.class.getDeclaredFields()) {
            if (!Modifier.isPrivate(field.getModifiers())) {
                constants.add(field.getName());
            }
        }
        CHECK.holds("the constants are " + constants, constants.toString().equals("[BAD, CLOSED, LOST, NONE]"));
        Constructor<?>[] made = PageMender.class.getDeclaredConstructors();
        CHECK.holds("one public constructor", made.length == 1 && Modifier.isPublic(made[0].getModifiers()));
        CHECK.holds("final", Modifier.isFinal(PageMender.class.getModifiers()));
    }

    private static void oddNumbers() {
        PageMender closed = new PageMender();
        for (int a : ODD) {
            for (int b : ODD) {
                callAll(closed, a, b);
            }
        }
        int[][] codes = {{4, 1, 1}, {5, 3, 2}, {8, 8, 23}, {13, 8, 256}};
        for (int[] c : codes) {
            for (int a : ODD) {
                PageMender x = new PageMender();
                x.open(c[0], c[1], c[2]);
                for (int b : ODD) {
                    callAll(x, a, b);
                }
            }
        }
        PageMender x = new PageMender();
        for (int m : ODD) {
            for (int t : ODD) {
                for (int d : ODD) {
                    CHECK.holds("open(" + m + ", " + t + ", " + d + ")", x.open(m, t, d) >= PageMender.BAD);
                }
            }
        }
    }

    private static void callAll(PageMender x, int a, int b) {
        int[] answers = {
            x.times(a, b), x.inverse(a), x.power(a), x.log(a), x.minimal(a), x.generator(a), x.put(a, b),
            x.fill(a, b), x.get(a), x.tail(a), x.write(a), x.flip(a, b), x.stick(a, b, 0), x.stick(a, b, a),
            x.stick(a, a, b), x.mark(a, b, true), x.bit(a, b), x.read(a), x.turned(a), x.syndrome(a, b), x.copy(a, b),
            x.refresh(a), x.told(a, b), x.about(a), x.mark(a, b, false), x.erase(a)
        };
        for (int i = 0; i < answers.length; i++) {
            CHECK.holds("call " + i + " with " + a + ", " + b, answers[i] >= PageMender.LOST);
        }
    }

    /** All calls of a run live in one room: what each call made would add up. */
    private static void makesNoObjects() {
        PageMender x = new PageMender();
        int sum = callsThatMend(x);
        com.sun.management.ThreadMXBean bean = (com.sun.management.ThreadMXBean) ManagementFactory.getThreadMXBean();
        long self = Thread.currentThread().getId();
        bean.getThreadAllocatedBytes(self);
        long before = bean.getThreadAllocatedBytes(self);
        for (int again = 0; again < 100; again++) {
            sum += callsThatMend(x);
        }
        long made = bean.getThreadAllocatedBytes(self) - before;
        CHECK.holds("2300 calls made " + made + " bytes", made < 1000 && sum != 0);
    }

    private static int callsThatMend(PageMender x) {
        int sum = x.open(13, 8, 256);
        sum += x.minimal(9) + x.generator(3) + x.times(5, 9) + x.inverse(77) + x.power(-9) + x.log(9);
        sum += x.put(1, 2) + x.fill(3, 4L) + x.get(5) + x.tail(6) + x.write(7);
        sum += x.flip(7, 9) + x.flip(7, 700) + x.mark(7, 10, true) + x.stick(7, 11, 0) + x.bit(7, 9);
        sum += x.read(7) + x.turned(1) + x.syndrome(7, 5) + x.copy(7, 8) + x.refresh(1) + x.told(7, 9) + x.erase(7);
        return sum + x.about(4);
    }
}
