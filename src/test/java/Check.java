import java.util.List;

/** Counts the answers that are not as due; each test makes one and ends with it. */
final class Check {
    private static final int MOST_PRINTED = 50;
    private final String name;
    private int made;
    private int wrong;

    Check(String name) {
        this.name = name;
    }

    void due(String what, long got, long want) {
        made++;
        if (got != want) {
            wrong++;
            if (wrong <= MOST_PRINTED) {
                System.out.println(name + ": " + what + " answered " + got + ", due is " + want);
            }
        }
    }

    void holds(String what, boolean held) {
        due(what, held ? 1 : 0, 1);
    }

    /** The first line that is another one is told. */
    void same(String what, List<String> got, List<String> want) {
        int at = 0;
        while (at < got.size() && at < want.size() && got.get(at).equals(want.get(at))) {
            at++;
        }
        boolean all = got.size() == want.size() && at == got.size();
        String first = all ? "" : ": " + lineAt(got, at) + ", due is " + lineAt(want, at);
        holds(what + first, all);
    }

    private static String lineAt(List<String> lines, int at) {
        return at < lines.size() ? lines.get(at) : "nothing more";
    }

    void end() {
        System.out.println(name + ": " + (made - wrong) + " of " + made + " answers as due");
        if (wrong != 0 || made == 0) {
            System.exit(1);
        }
    }
}
