import java.util.ArrayList;
import java.util.List;

/**
 * A run of calls that can be played again and again, each time on a new object. So one call can be
 * added to it, and all that is seen afterwards be held against what is seen without that call.
 */
final class Scene {
    /** One call of the class, with its numbers. */
    interface Call {
        int on(PageMender x);
    }

    private static final int PAGES = 16;
    private final List<Call> calls;

    private Scene(List<Call> calls) {
        this.calls = calls;
    }

    static Scene of(Call... calls) {
        return new Scene(List.of(calls));
    }

    Scene then(Call... more) {
        List<Call> all = new ArrayList<>(calls);
        all.addAll(List.of(more));
        return new Scene(all);
    }

    PageMender play() {
        PageMender x = new PageMender();
        for (Call call : calls) {
            call.on(x);
        }
        return x;
    }

    /** What the last call answers. */
    int answer() {
        PageMender x = new PageMender();
        int answer = 0;
        for (Call call : calls) {
            answer = call.on(x);
        }
        return answer;
    }

    /**
     * All that can be seen from outside, a line each. To look at a page changes it, and an object
     * answers 512 calls: so each page is looked at on an object of its own.
     */
    List<String> seen() {
        List<String> lines = new ArrayList<>();
        lookAtCode(play(), lines);
        for (int page = 0; page < PAGES; page++) {
            lookAtPage(play(), page, lines);
        }
        return lines;
    }

    List<String> seenOfPage(int page) {
        List<String> lines = new ArrayList<>();
        lookAtPage(play(), page, lines);
        return lines;
    }

    List<String> seenBesidePages() {
        List<String> lines = new ArrayList<>();
        lookAtCode(play(), lines);
        return lines;
    }

    private static void lookAtCode(PageMender x, List<String> lines) {
        for (int what = 0; what < 8; what++) {
            lines.add("about(" + what + ") is " + x.about(what));
        }
        int top = (1 << Math.max(0, x.about(0))) - 1;
        lines.add("times(" + top + ", " + top + ") is " + x.times(top, top));
        lines.add("log(" + top + ") is " + x.log(top));
        for (int i = 0; i < x.about(2); i++) {
            lines.add("get(" + i + ") is " + x.get(i));
        }
        for (int i = 0; i < x.about(3); i++) {
            lines.add("generator(" + i + ") is " + x.generator(i));
            lines.add("tail(" + i + ") is " + x.tail(i));
        }
        for (int i = 0; i <= 20; i++) {
            lines.add("turned(" + i + ") is " + x.turned(i));
        }
    }

    private static void lookAtPage(PageMender x, int page, List<String> lines) {
        int n = x.about(4);
        for (int what = 0; what < 20; what++) {
            lines.add("told(" + page + ", " + what + ") is " + x.told(page, what));
        }
        for (int i = 1; i <= 2 * x.about(1); i++) {
            lines.add("syndrome(" + page + ", " + i + ") is " + x.syndrome(page, i));
        }
        for (int k = 0; k < n; k++) {
            lines.add("bit(" + page + ", " + k + ") is " + x.bit(page, k));
        }
        lines.add("read(" + page + ") is " + x.read(page));
        for (int k = 0; k < n; k++) {
            lines.add("then mark(" + page + ", " + k + ", false) is " + x.mark(page, k, false));
        }
        for (int k = 0; k < n; k++) {
            lines.add("then flip(" + page + ", " + k + ") is " + x.flip(page, k));
        }
    }
}
